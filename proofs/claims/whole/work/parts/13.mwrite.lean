/-! the reference: its writers -/
theorem lk_X5_isIn_47 : Cond.fieldLink RX5 47 "HarbourPilotlineModel" "in" "[I" ∈ wsX5_isIn := by decide +kernel
theorem in_X5_isIn : ∀ w ∈ wsX50, w ∈ wsX5_isIn := by decide +kernel
set_option maxRecDepth 100000 in
set_option maxHeartbeats 4000000 in
theorem c_X5_isIn (l : Launch) (D : va_G) (cI cO cL : ClassId) (b : Nat) (ma : Nat → Nat) (σ : zT) (H0 : Heap) (hR : RM D cI b ma σ H0) (k w : Int) (hI : zInv σ) (hk : 0 ≤ k ∧ k < σ 14 0) (hw : 0 ≤ w ∧ w ≤ 2) : zPM l yX5_isIn wsX5_isIn ({ frames := 0, cells := 0, slots := 0, locals := 0 }) (zKK D cI cO cL) [.ref b, .int (zI k), .int (zI w)] H0 (fun r => r = .int (zI (bI (zBit (σ 17 k) w = 1)))) := by
  refine Met.ofW (cc := cX5_isIn) (maxL := 3) (ret := (some .boolean)) (by decide) rfl ?_
  intro p e s m args below meth c s₁ B hml hv
  obtain ⟨rfl, hH, hK⟩ := hv
  subst hH
  have hx := B.exec
  have hb := B.bytes
  have hr := B.returns
  have hts := atoms_spec (ws := wsX5_isIn) B.pre
  have hown : s.vm.findClass RX5 = some m.cls := findClass_of_methodNamed B.named
  have hlocks := B.notSynchronized
  have hl := lv_entry ([.ref b, .int (zI k), .int (zI w)]) (n := 3) (Nat.le_of_ble_eq_true rfl)
  rw [lg_entry_eq]
  generalize (lg_sl ([.ref b, .int (zI k), .int (zI w)]) ++ List.replicate (3 - (lg_sl ([.ref b, .int (zI k), .int (zI w)])).length) Slot.unset).toArray = ls at hl ⊢
  have hl : lv_has ls 3 [(0, .ref b), (1, .int (zI k)), (2, .int (zI w))] := hl
  have f0 := hI.r
  have fk := hI.c hk
  have gk := hI.s (i := σ 15 k) (by omega)
  have hbit := zBit_sh (σ 17 k) w
  have hbr := zBit_r (σ 17 k) w
  have hsr := zSh_r fk.2.2.1 w
  refine lv_aload_n hx hb dX5_isIn_0 rfl (lv_at hl 0 rfl) ?_
  refine m_get hx hb hts in_X5_isIn hown hK hR 17 (by decide) lk_X5_isIn_47 rfl rfl dX5_isIn_1 ?_
  refine lv_iload_n hx hb dX5_isIn_4 rfl (lv_at hl 1 rfl) ?_
  refine m_ald hx hb hK hR 17 rfl (by show 0 ≤ k ∧ k < ((40 : Nat) : Int); omega) dX5_isIn_5 ?_
  refine lv_iload_n hx hb dX5_isIn_6 rfl (lv_at hl 2 rfl) ?_
  refine z_ishr hx hb dX5_isIn_7 (by omega) ?_
  refine z_iconst hx hb dX5_isIn_8 ?_
  refine z_iand1 hx hb dX5_isIn_9 (by omega) ?_
  refine z_iconst hx hb dX5_isIn_10 ?_
  refine z_icmp_ne (tgt := 18) hx hb dX5_isIn_11 (by decide) (by omega) (fun c_1 => ?_) (fun c_1 => ?_)
  · refine z_iconst hx hb dX5_isIn_18 ?_
    exact W.zret hx hb hr rfl (z_end (post := fun r => r = .int (zI (bI (zBit (σ 17 k) w = 1)))) (z_eq (a := 0) (b := bI (zBit (σ 17 k) w = 1)) (bI_f (by omega)).symm)) (fun _ h => nomatch h) dX5_isIn_19
  · refine z_iconst hx hb dX5_isIn_14 ?_
    refine lv_goto (tgt := 19) hx hb dX5_isIn_15 (by decide) ?_
    exact W.zret hx hb hr rfl (z_end (post := fun r => r = .int (zI (bI (zBit (σ 17 k) w = 1)))) (z_eq (a := 1) (b := bI (zBit (σ 17 k) w = 1)) (bI_t (by omega)).symm)) (fun _ h => nomatch h) dX5_isIn_19

set_option maxRecDepth 100000 in
set_option maxHeartbeats 4000000 in
theorem c_X5_many (l : Launch) (D : va_G) (cI cO cL : ClassId) (b : Nat) (ma : Nat → Nat) (σ : zT) (H0 : Heap) (hR : RM D cI b ma σ H0) (k : Int) (hk : 0 ≤ k ∧ k ≤ 7) : zPM l yX5_many wsX5_many ({ frames := 0, cells := 0, slots := 0, locals := 0 }) (zKK D cI cO cL) [.int (zI k)] H0 (fun r => r = .int (zI (zMany k))) := by
  refine Met.ofW (cc := cX5_many) (maxL := 1) (ret := (some .int)) (by decide) rfl ?_
  intro p e s m args below meth c s₁ B hml hv
  obtain ⟨rfl, hH, hK⟩ := hv
  subst hH
  have hx := B.exec
  have hb := B.bytes
  have hr := B.returns
  have hts := atoms_spec (ws := wsX5_many) B.pre
  have hown : s.vm.findClass RX5 = some m.cls := findClass_of_methodNamed B.named
  have hlocks := B.notSynchronized
  have hl := lv_entry ([.int (zI k)]) (n := 1) (Nat.le_of_ble_eq_true rfl)
  rw [lg_entry_eq]
  generalize (lg_sl ([.int (zI k)]) ++ List.replicate (1 - (lg_sl ([.int (zI k)])).length) Slot.unset).toArray = ls at hl ⊢
  have hl : lv_has ls 1 [(0, .int (zI k))] := hl
  refine lv_iload_n hx hb dX5_many_0 rfl (lv_at hl 0 rfl) ?_
  refine z_iconst hx hb dX5_many_1 ?_
  refine z_iand1 hx hb dX5_many_2 (by first | omega | (unfold zSh; rw [if_neg (by decide)]; first | (rw [if_pos rfl]; omega) | (rw [if_neg (by decide)]; omega))) ?_
  refine lv_iload_n hx hb dX5_many_3 rfl (lv_at hl 0 rfl) ?_
  refine z_iconst hx hb dX5_many_4 ?_
  refine z_ishr hx hb dX5_many_5 (by exact ⟨by omega, by decide⟩) ?_
  refine z_iconst hx hb dX5_many_6 ?_
  refine z_iand1 hx hb dX5_many_7 (by first | omega | (unfold zSh; rw [if_neg (by decide)]; first | (rw [if_pos rfl]; omega) | (rw [if_neg (by decide)]; omega))) ?_
  refine z_iadd hx hb dX5_many_8 ?_
  refine lv_iload_n hx hb dX5_many_9 rfl (lv_at hl 0 rfl) ?_
  refine z_iconst hx hb dX5_many_10 ?_
  refine z_ishr hx hb dX5_many_11 (by exact ⟨by omega, by decide⟩) ?_
  refine z_iconst hx hb dX5_many_12 ?_
  refine z_iand1 hx hb dX5_many_13 (by first | omega | (unfold zSh; rw [if_neg (by decide)]; first | (rw [if_pos rfl]; omega) | (rw [if_neg (by decide)]; omega))) ?_
  refine z_iadd hx hb dX5_many_14 ?_
  exact W.iret hx hb hr (z_end (post := fun r => r = .int (zI (zMany k))) (z_eq (a := (((k % 2) + ((zSh k 1) % 2)) + ((zSh k 2) % 2))) (b := zMany k) (by rfl))) (fun _ h => nomatch h) dX5_many_15

theorem lk_X5_tide_59 : Cond.fieldLink RX5 59 "HarbourPilotlineModel" "thrown" "I" ∈ wsX5_tide := by decide +kernel
theorem lk_X5_tide_7 : Cond.fieldLink RX5 7 "HarbourPilotlineModel" "depth" "I" ∈ wsX5_tide := by decide +kernel
theorem lk_X5_tide_13 : Cond.fieldLink RX5 13 "HarbourPilotlineModel" "rise" "I" ∈ wsX5_tide := by decide +kernel
theorem in_X5_tide : ∀ w ∈ wsX50, w ∈ wsX5_tide := by decide +kernel
set_option maxRecDepth 100000 in
set_option maxHeartbeats 4000000 in
theorem c_X5_tide (l : Launch) (D : va_G) (cI cO cL : ClassId) (b : Nat) (ma : Nat → Nat) (hM : MA b ma) (σ : zT) (H0 : Heap) (hR : RM D cI b ma σ H0) (d r : Int) (hI : zInv σ) (hd : (-2147483648 ≤ d ∧ d < 2147483648)) (hr1 : (-2147483648 ≤ r ∧ r < 2147483648)) : zWM l yX5_tide wsX5_tide ({ frames := 1, cells := 0, slots := 0, locals := 22 }) D cI cO cL b ma [.ref b, .int (zI d), .int (zI r)] H0 ((fun rv σ' => rv = none ∧ (zth_tide d r = 0 → σ' = zst_tide (zup σ 0 0 0) d r) ∧ (zth_tide d r ≠ 0 → σ' = zup σ 0 0 (zth_tide d r)))) := by
  refine Met.ofW (cc := cX5_tide) (maxL := 3) (ret := none) (by decide) rfl ?_
  intro p e s m args below meth c s₁ B hml hv
  obtain ⟨rfl, hH, hK⟩ := hv
  subst hH
  have hx := B.exec
  have hb := B.bytes
  have hr := B.returns
  have hts := atoms_spec (ws := wsX5_tide) B.pre
  have hown : s.vm.findClass RX5 = some m.cls := findClass_of_methodNamed B.named
  have hlocks := B.notSynchronized
  have hl := lv_entry ([.ref b, .int (zI d), .int (zI r)]) (n := 3) (Nat.le_of_ble_eq_true rfl)
  rw [lg_entry_eq]
  generalize (lg_sl ([.ref b, .int (zI d), .int (zI r)]) ++ List.replicate (3 - (lg_sl ([.ref b, .int (zI d), .int (zI r)])).length) Slot.unset).toArray = ls at hl ⊢
  have hl : lv_has ls 3 [(0, .ref b), (1, .int (zI d)), (2, .int (zI r))] := hl
  have f0 := hI.r
  refine lv_aload_n hx hb dX5_tide_0 rfl (lv_at hl 0 rfl) ?_
  refine lv_iload_n hx hb dX5_tide_1 rfl (lv_at hl 1 rfl) ?_
  refine z_bipush hx hb dX5_tide_2 (by decide +kernel) ?_
  refine z_sipush hx hb dX5_tide_4 (by decide +kernel) ?_
  refine z_cs (As := [.int (zI d), .int (zI 10), .int (zI 300)]) (rest := [.ref b]) ⟨hx, hb, hml, hown, hts⟩ (c_X5_in l D cI cO cL b ma σ s.heap hR d 10 300 (by omega)) (va_cwS 3 hts gX5_tide_X5_in rfl rfl rfl (by decide +kernel) ⟨Nat.le_of_ble_eq_true rfl, Nat.le_of_ble_eq_true rfl⟩) (zKK_mv D cI cO cL) (fun U _ hv => va_K.moved hv hK) rfl hl.1 rfl (Nat.le_of_ble_eq_true rfl) dX5_tide_7 ⟨Nat.zero_le _, Nat.zero_le _⟩ (fun r_1 hr_1 => ?_)
  rw [hr_1]
  refine z_ifb_eq (tgt := 28) hx hb dX5_tide_10 (by decide) (fun c_2 => ?_) (fun c_2 => ?_)
  · refine z_iconst hx hb dX5_tide_28 ?_
    refine m_put hx hb hts in_X5_tide hown hK hR hM va_S.rf 0 (by decide) rfl lk_X5_tide_59 rfl rfl rfl rfl dX5_tide_29 (fun H_3 locsH_3 hRH_3 hzH_3 hSH_3 => ?_)
    refine lv_aload_n hx hb dX5_tide_32 rfl (lv_at hl 0 rfl) ?_
    refine m_get hx hb hts in_X5_tide hown hK hRH_3 0 (by decide) lk_X5_tide_59 rfl rfl dX5_tide_33 ?_
    refine z_top (b := 1) (by rw [zup_s]) ?_
    refine z_if_ne (tgt := 49) hx hb dX5_tide_36 (by decide) (by omega) (fun c_4 => ?_) (fun c_4 => ?_)
    · have ht : zth_tide d r = 1 := by unfold zth_tide; (repeat' split) <;> omega
      exact W.vret hx hb hr (z_endM (post := (fun rv σ' => rv = none ∧ (zth_tide d r = 0 → σ' = zst_tide (zup σ 0 0 0) d r) ∧ (zth_tide d r ≠ 0 → σ' = zup σ 0 0 (zth_tide d r)))) (σ' := (zup σ 0 0 1)) (v := none) ⟨rfl, fun h => absurd (ht.symm.trans h) (by decide), fun _ => by rw [ht]⟩ hRH_3 (hzH_3.trans rfl) hSH_3) hSH_3.2.2 dX5_tide_49
    · exact absurd c_4 (by decide)
  · refine lv_iload_n hx hb dX5_tide_13 rfl (lv_at hl 2 rfl) ?_
    refine z_iconst hx hb dX5_tide_14 ?_
    refine z_sipush hx hb dX5_tide_15 (by decide +kernel) ?_
    refine z_cs (As := [.int (zI r), .int (zI 0), .int (zI 200)]) (rest := [.ref b]) ⟨hx, hb, hml, hown, hts⟩ (c_X5_in l D cI cO cL b ma σ s.heap hR r 0 200 (by omega)) (va_cwS 3 hts gX5_tide_X5_in rfl rfl rfl (by decide +kernel) ⟨Nat.le_of_ble_eq_true rfl, Nat.le_of_ble_eq_true rfl⟩) (zKK_mv D cI cO cL) (fun U _ hv => va_K.moved hv hK) rfl hl.1 rfl (Nat.le_of_ble_eq_true rfl) dX5_tide_18 ⟨Nat.zero_le _, Nat.zero_le _⟩ (fun r_5 hr_5 => ?_)
    rw [hr_5]
    refine z_ifb_eq (tgt := 28) hx hb dX5_tide_21 (by decide) (fun c_6 => ?_) (fun c_6 => ?_)
    · refine z_iconst hx hb dX5_tide_28 ?_
      refine m_put hx hb hts in_X5_tide hown hK hR hM va_S.rf 0 (by decide) rfl lk_X5_tide_59 rfl rfl rfl rfl dX5_tide_29 (fun H_7 locsH_7 hRH_7 hzH_7 hSH_7 => ?_)
      refine lv_aload_n hx hb dX5_tide_32 rfl (lv_at hl 0 rfl) ?_
      refine m_get hx hb hts in_X5_tide hown hK hRH_7 0 (by decide) lk_X5_tide_59 rfl rfl dX5_tide_33 ?_
      refine z_top (b := 1) (by rw [zup_s]) ?_
      refine z_if_ne (tgt := 49) hx hb dX5_tide_36 (by decide) (by omega) (fun c_8 => ?_) (fun c_8 => ?_)
      · have ht : zth_tide d r = 1 := by unfold zth_tide; (repeat' split) <;> omega
        exact W.vret hx hb hr (z_endM (post := (fun rv σ' => rv = none ∧ (zth_tide d r = 0 → σ' = zst_tide (zup σ 0 0 0) d r) ∧ (zth_tide d r ≠ 0 → σ' = zup σ 0 0 (zth_tide d r)))) (σ' := (zup σ 0 0 1)) (v := none) ⟨rfl, fun h => absurd (ht.symm.trans h) (by decide), fun _ => by rw [ht]⟩ hRH_7 (hzH_7.trans rfl) hSH_7) hSH_7.2.2 dX5_tide_49
      · exact absurd c_8 (by decide)
    · refine z_iconst hx hb dX5_tide_24 ?_
      refine lv_goto (tgt := 29) hx hb dX5_tide_25 (by decide) ?_
      refine m_put hx hb hts in_X5_tide hown hK hR hM va_S.rf 0 (by decide) rfl lk_X5_tide_59 rfl rfl rfl rfl dX5_tide_29 (fun H_9 locsH_9 hRH_9 hzH_9 hSH_9 => ?_)
      refine lv_aload_n hx hb dX5_tide_32 rfl (lv_at hl 0 rfl) ?_
      refine m_get hx hb hts in_X5_tide hown hK hRH_9 0 (by decide) lk_X5_tide_59 rfl rfl dX5_tide_33 ?_
      refine z_top (b := 0) (by rw [zup_s]) ?_
      refine z_if_ne (tgt := 49) hx hb dX5_tide_36 (by decide) (by omega) (fun c_10 => ?_) (fun c_10 => ?_)
      · exact absurd c_10 (by decide)
      · refine lv_aload_n hx hb dX5_tide_39 rfl (lv_at hl 0 rfl) ?_
        refine lv_iload_n hx hb dX5_tide_40 rfl (lv_at hl 1 rfl) ?_
        refine m_put hx hb hts in_X5_tide hown hK hRH_9 hM hSH_9 2 (by decide) rfl lk_X5_tide_7 rfl rfl rfl rfl dX5_tide_41 (fun H_11 locsH_11 hRH_11 hzH_11 hSH_11 => ?_)
        refine lv_aload_n hx hb dX5_tide_44 rfl (lv_at hl 0 rfl) ?_
        refine lv_iload_n hx hb dX5_tide_45 rfl (lv_at hl 2 rfl) ?_
        refine m_put hx hb hts in_X5_tide hown hK hRH_11 hM hSH_11 3 (by decide) rfl lk_X5_tide_13 rfl rfl rfl rfl dX5_tide_46 (fun H_12 locsH_12 hRH_12 hzH_12 hSH_12 => ?_)
        have ht : zth_tide d r = 0 := by unfold zth_tide; (repeat' split) <;> omega
        exact W.vret hx hb hr (z_endM (post := (fun rv σ' => rv = none ∧ (zth_tide d r = 0 → σ' = zst_tide (zup σ 0 0 0) d r) ∧ (zth_tide d r ≠ 0 → σ' = zup σ 0 0 (zth_tide d r)))) (σ' := (zup (zup (zup σ 0 0 0) 2 0 d) 3 0 r)) (v := none) ⟨rfl, fun _ => rfl, fun h => absurd ht h⟩ hRH_12 (hzH_12.trans (hzH_11.trans (hzH_9.trans rfl))) hSH_12) hSH_12.2.2 dX5_tide_49

theorem lk_X5_tugs_59 : Cond.fieldLink RX5 59 "HarbourPilotlineModel" "thrown" "I" ∈ wsX5_tugs := by decide +kernel
theorem lk_X5_tugs_16 : Cond.fieldLink RX5 16 "HarbourPilotlineModel" "tugs" "I" ∈ wsX5_tugs := by decide +kernel
theorem in_X5_tugs : ∀ w ∈ wsX50, w ∈ wsX5_tugs := by decide +kernel
set_option maxRecDepth 100000 in
set_option maxHeartbeats 4000000 in
theorem c_X5_tugs (l : Launch) (D : va_G) (cI cO cL : ClassId) (b : Nat) (ma : Nat → Nat) (hM : MA b ma) (σ : zT) (H0 : Heap) (hR : RM D cI b ma σ H0) (n : Int) (hI : zInv σ) (hn : (-2147483648 ≤ n ∧ n < 2147483648)) : zWM l yX5_tugs wsX5_tugs ({ frames := 1, cells := 0, slots := 0, locals := 22 }) D cI cO cL b ma [.ref b, .int (zI n)] H0 (zPost (zth_tugs n) (zan_tugs (zup σ 0 0 0)) (zst_tugs (zup σ 0 0 0) n) (zup σ 0 0 (zth_tugs n))) := by
  refine Met.ofW (cc := cX5_tugs) (maxL := 3) (ret := (some .int)) (by decide) rfl ?_
  intro p e s m args below meth c s₁ B hml hv
  obtain ⟨rfl, hH, hK⟩ := hv
  subst hH
  have hx := B.exec
  have hb := B.bytes
  have hr := B.returns
  have hts := atoms_spec (ws := wsX5_tugs) B.pre
  have hown : s.vm.findClass RX5 = some m.cls := findClass_of_methodNamed B.named
  have hlocks := B.notSynchronized
  have hl := lv_entry ([.ref b, .int (zI n)]) (n := 3) (Nat.le_of_ble_eq_true rfl)
  rw [lg_entry_eq]
  generalize (lg_sl ([.ref b, .int (zI n)]) ++ List.replicate (3 - (lg_sl ([.ref b, .int (zI n)])).length) Slot.unset).toArray = ls at hl ⊢
  have hl : lv_has ls 3 [(0, .ref b), (1, .int (zI n))] := hl
  have f0 := hI.r
  refine lv_aload_n hx hb dX5_tugs_0 rfl (lv_at hl 0 rfl) ?_
  refine lv_iload_n hx hb dX5_tugs_1 rfl (lv_at hl 1 rfl) ?_
  refine z_iconst hx hb dX5_tugs_2 ?_
  refine z_bipush hx hb dX5_tugs_3 (by decide +kernel) ?_
  refine z_cs (As := [.int (zI n), .int (zI 0), .int (zI 6)]) (rest := [.ref b]) ⟨hx, hb, hml, hown, hts⟩ (c_X5_in l D cI cO cL b ma σ s.heap hR n 0 6 (by omega)) (va_cwS 3 hts gX5_tugs_X5_in rfl rfl rfl (by decide +kernel) ⟨Nat.le_of_ble_eq_true rfl, Nat.le_of_ble_eq_true rfl⟩) (zKK_mv D cI cO cL) (fun U _ hv => va_K.moved hv hK) rfl hl.1 rfl (Nat.le_of_ble_eq_true rfl) dX5_tugs_5 ⟨Nat.zero_le _, Nat.zero_le _⟩ (fun r_1 hr_1 => ?_)
  rw [hr_1]
  refine z_ifb_eq (tgt := 15) hx hb dX5_tugs_8 (by decide) (fun c_2 => ?_) (fun c_2 => ?_)
  · refine z_iconst hx hb dX5_tugs_15 ?_
    refine m_put hx hb hts in_X5_tugs hown hK hR hM va_S.rf 0 (by decide) rfl lk_X5_tugs_59 rfl rfl rfl rfl dX5_tugs_16 (fun H_3 locsH_3 hRH_3 hzH_3 hSH_3 => ?_)
    refine lv_aload_n hx hb dX5_tugs_19 rfl (lv_at hl 0 rfl) ?_
    refine m_get hx hb hts in_X5_tugs hown hK hRH_3 0 (by decide) lk_X5_tugs_59 rfl rfl dX5_tugs_20 ?_
    refine z_top (b := 1) (by rw [zup_s]) ?_
    refine z_if_le (tgt := 28) hx hb dX5_tugs_23 (by decide) (by omega) (fun c_4 => ?_) (fun c_4 => ?_)
    · exact absurd c_4 (by decide)
    · refine z_iconst hx hb dX5_tugs_26 ?_
      have ht : zth_tugs n = 1 := by unfold zth_tugs; (repeat' split) <;> omega
      exact W.iret hx hb hr (z_endM (post := zPost (zth_tugs n) (zan_tugs (zup σ 0 0 0)) (zst_tugs (zup σ 0 0 0) n) (zup σ 0 0 (zth_tugs n))) (σ' := (zup σ 0 0 1)) (v := some (.int (zI 0))) (zPost_no (a := 0) ht (by decide)) hRH_3 (hzH_3.trans rfl) hSH_3) hSH_3.2.2 dX5_tugs_27
  · refine z_iconst hx hb dX5_tugs_11 ?_
    refine lv_goto (tgt := 16) hx hb dX5_tugs_12 (by decide) ?_
    refine m_put hx hb hts in_X5_tugs hown hK hR hM va_S.rf 0 (by decide) rfl lk_X5_tugs_59 rfl rfl rfl rfl dX5_tugs_16 (fun H_5 locsH_5 hRH_5 hzH_5 hSH_5 => ?_)
    refine lv_aload_n hx hb dX5_tugs_19 rfl (lv_at hl 0 rfl) ?_
    refine m_get hx hb hts in_X5_tugs hown hK hRH_5 0 (by decide) lk_X5_tugs_59 rfl rfl dX5_tugs_20 ?_
    refine z_top (b := 0) (by rw [zup_s]) ?_
    refine z_if_le (tgt := 28) hx hb dX5_tugs_23 (by decide) (by omega) (fun c_6 => ?_) (fun c_6 => ?_)
    · refine lv_aload_n hx hb dX5_tugs_28 rfl (lv_at hl 0 rfl) ?_
      refine m_get hx hb hts in_X5_tugs hown hK hRH_5 4 (by decide) lk_X5_tugs_16 rfl rfl dX5_tugs_29 ?_
      refine z_top (b := σ 4 0) (by rw [zup_t (t := 0) (t' := 4) (by decide)]) ?_
      refine lv_istore_n (lv' := [(2, .int (zI (σ 4 0))), (0, .ref b), (1, .int (zI n))]) hx hb dX5_tugs_32 rfl hl (by decide) rfl (fun ls hl => ?_)
      refine lv_aload_n hx hb dX5_tugs_33 rfl (lv_at hl 1 rfl) ?_
      refine lv_iload_n hx hb dX5_tugs_34 rfl (lv_at hl 2 rfl) ?_
      refine m_put hx hb hts in_X5_tugs hown hK hRH_5 hM hSH_5 4 (by decide) rfl lk_X5_tugs_16 rfl rfl rfl rfl dX5_tugs_35 (fun H_7 locsH_7 hRH_7 hzH_7 hSH_7 => ?_)
      refine lv_iload_n hx hb dX5_tugs_38 rfl (lv_at hl 0 rfl) ?_
      have ht : zth_tugs n = 0 := by unfold zth_tugs; (repeat' split) <;> omega
      exact W.iret hx hb hr (z_endM (post := zPost (zth_tugs n) (zan_tugs (zup σ 0 0 0)) (zst_tugs (zup σ 0 0 0) n) (zup σ 0 0 (zth_tugs n))) (σ' := (zup (zup σ 0 0 0) 4 0 n)) (v := some (.int (zI (σ 4 0)))) (zPost_ok (a := (σ 4 0)) ht (by rfl) (by rfl)) hRH_7 (hzH_7.trans (hzH_5.trans rfl)) hSH_7) hSH_7.2.2 dX5_tugs_39
    · exact absurd c_6 (by decide)

theorem lk_X5_ship_59 : Cond.fieldLink RX5 59 "HarbourPilotlineModel" "thrown" "I" ∈ wsX5_ship := by decide +kernel
theorem lk_X5_ship_62 : Cond.fieldLink RX5 62 "HarbourPilotlineModel" "ships" "I" ∈ wsX5_ship := by decide +kernel
theorem lk_X5_ship_19 : Cond.fieldLink RX5 19 "HarbourPilotlineModel" "draught" "[I" ∈ wsX5_ship := by decide +kernel
theorem lk_X5_ship_23 : Cond.fieldLink RX5 23 "HarbourPilotlineModel" "tons" "[I" ∈ wsX5_ship := by decide +kernel
theorem lk_X5_ship_26 : Cond.fieldLink RX5 26 "HarbourPilotlineModel" "takes" "[I" ∈ wsX5_ship := by decide +kernel
theorem lk_X5_ship_29 : Cond.fieldLink RX5 29 "HarbourPilotlineModel" "needs" "[I" ∈ wsX5_ship := by decide +kernel
theorem in_X5_ship : ∀ w ∈ wsX50, w ∈ wsX5_ship := by decide +kernel
set_option maxRecDepth 100000 in
set_option maxHeartbeats 4000000 in
theorem c_X5_ship (l : Launch) (D : va_G) (cI cO cL : ClassId) (b : Nat) (ma : Nat → Nat) (hM : MA b ma) (σ : zT) (H0 : Heap) (hR : RM D cI b ma σ H0) (d t n g : Int) (hI : zInv σ) (hd : (-2147483648 ≤ d ∧ d < 2147483648)) (ht : (-2147483648 ≤ t ∧ t < 2147483648)) (hn : (-2147483648 ≤ n ∧ n < 2147483648)) (hg : (-2147483648 ≤ g ∧ g < 2147483648)) : zWM l yX5_ship wsX5_ship ({ frames := 1, cells := 0, slots := 0, locals := 22 }) D cI cO cL b ma [.ref b, .int (zI d), .int (zI t), .int (zI n), .int (zI g)] H0 (zPost (zth_ship σ d t n g) (zan_ship (zup σ 0 0 0)) (zst_ship (zup σ 0 0 0) d t n g) (zup σ 0 0 (zth_ship σ d t n g))) := by
  refine Met.ofW (cc := cX5_ship) (maxL := 6) (ret := (some .int)) (by decide) rfl ?_
  intro p e s m args below meth c s₁ B hml hv
  obtain ⟨rfl, hH, hK⟩ := hv
  subst hH
  have hx := B.exec
  have hb := B.bytes
  have hr := B.returns
  have hts := atoms_spec (ws := wsX5_ship) B.pre
  have hown : s.vm.findClass RX5 = some m.cls := findClass_of_methodNamed B.named
  have hlocks := B.notSynchronized
  have hl := lv_entry ([.ref b, .int (zI d), .int (zI t), .int (zI n), .int (zI g)]) (n := 6) (Nat.le_of_ble_eq_true rfl)
  rw [lg_entry_eq]
  generalize (lg_sl ([.ref b, .int (zI d), .int (zI t), .int (zI n), .int (zI g)]) ++ List.replicate (6 - (lg_sl ([.ref b, .int (zI d), .int (zI t), .int (zI n), .int (zI g)])).length) Slot.unset).toArray = ls at hl ⊢
  have hl : lv_has ls 6 [(0, .ref b), (1, .int (zI d)), (2, .int (zI t)), (3, .int (zI n)), (4, .int (zI g))] := hl
  have f0 := hI.r
  refine lv_iload_n hx hb dX5_ship_0 rfl (lv_at hl 1 rfl) ?_
  refine z_iconst hx hb dX5_ship_1 ?_
  refine z_sipush hx hb dX5_ship_2 (by decide +kernel) ?_
  refine z_cs (As := [.int (zI d), .int (zI 1), .int (zI 400)]) (rest := []) ⟨hx, hb, hml, hown, hts⟩ (c_X5_in l D cI cO cL b ma σ s.heap hR d 1 400 (by omega)) (va_cwS 3 hts gX5_ship_X5_in rfl rfl rfl (by decide +kernel) ⟨Nat.le_of_ble_eq_true rfl, Nat.le_of_ble_eq_true rfl⟩) (zKK_mv D cI cO cL) (fun U _ hv => va_K.moved hv hK) rfl hl.1 rfl (Nat.le_of_ble_eq_true rfl) dX5_ship_5 ⟨Nat.zero_le _, Nat.zero_le _⟩ (fun r_1 hr_1 => ?_)
  rw [hr_1]
  refine z_ifb_eq (tgt := 47) hx hb dX5_ship_8 (by decide) (fun c_2 => ?_) (fun c_2 => ?_)
  · refine z_iconst hx hb dX5_ship_47 ?_
    refine lv_istore (lv' := [(5, .int (zI 0)), (0, .ref b), (1, .int (zI d)), (2, .int (zI t)), (3, .int (zI n)), (4, .int (zI g))]) hx hb dX5_ship_48 hl (by decide) rfl (fun ls hl => ?_)
    refine lv_aload_n hx hb dX5_ship_50 rfl (lv_at hl 1 rfl) ?_
    refine lv_iload hx hb dX5_ship_51 (lv_at hl 0 rfl) ?_
    refine z_if_ne (tgt := 60) hx hb dX5_ship_53 (by decide) (by omega) (fun c_3 => ?_) (fun c_3 => ?_)
    · exact absurd c_3 (by decide)
    · refine z_iconst hx hb dX5_ship_56 ?_
      refine lv_goto (tgt := 74) hx hb dX5_ship_57 (by decide) ?_
      refine m_put hx hb hts in_X5_ship hown hK hR hM va_S.rf 0 (by decide) rfl lk_X5_ship_59 rfl rfl rfl rfl dX5_ship_74 (fun H_4 locsH_4 hRH_4 hzH_4 hSH_4 => ?_)
      refine lv_aload_n hx hb dX5_ship_77 rfl (lv_at hl 1 rfl) ?_
      refine m_get hx hb hts in_X5_ship hown hK hRH_4 0 (by decide) lk_X5_ship_59 rfl rfl dX5_ship_78 ?_
      refine z_top (b := 1) (by rw [zup_s]) ?_
      refine z_if_le (tgt := 86) hx hb dX5_ship_81 (by decide) (by omega) (fun c_5 => ?_) (fun c_5 => ?_)
      · exact absurd c_5 (by decide)
      · refine z_iconst hx hb dX5_ship_84 ?_
        have ht : zth_ship σ d t n g = 1 := by unfold zth_ship; (repeat' split) <;> omega
        exact W.iret hx hb hr (z_endM (post := zPost (zth_ship σ d t n g) (zan_ship (zup σ 0 0 0)) (zst_ship (zup σ 0 0 0) d t n g) (zup σ 0 0 (zth_ship σ d t n g))) (σ' := (zup σ 0 0 1)) (v := some (.int (zI 0))) (zPost_no (a := 0) ht (by decide)) hRH_4 (hzH_4.trans rfl) hSH_4) hSH_4.2.2 dX5_ship_85
  · refine lv_iload_n hx hb dX5_ship_11 rfl (lv_at hl 2 rfl) ?_
    refine z_iconst hx hb dX5_ship_12 ?_
    refine z_sipush hx hb dX5_ship_13 (by decide +kernel) ?_
    refine z_cs (As := [.int (zI t), .int (zI 1), .int (zI 9999)]) (rest := []) ⟨hx, hb, hml, hown, hts⟩ (c_X5_in l D cI cO cL b ma σ s.heap hR t 1 9999 (by omega)) (va_cwS 3 hts gX5_ship_X5_in rfl rfl rfl (by decide +kernel) ⟨Nat.le_of_ble_eq_true rfl, Nat.le_of_ble_eq_true rfl⟩) (zKK_mv D cI cO cL) (fun U _ hv => va_K.moved hv hK) rfl hl.1 rfl (Nat.le_of_ble_eq_true rfl) dX5_ship_16 ⟨Nat.zero_le _, Nat.zero_le _⟩ (fun r_6 hr_6 => ?_)
    rw [hr_6]
    refine z_ifb_eq (tgt := 47) hx hb dX5_ship_19 (by decide) (fun c_7 => ?_) (fun c_7 => ?_)
    · refine z_iconst hx hb dX5_ship_47 ?_
      refine lv_istore (lv' := [(5, .int (zI 0)), (0, .ref b), (1, .int (zI d)), (2, .int (zI t)), (3, .int (zI n)), (4, .int (zI g))]) hx hb dX5_ship_48 hl (by decide) rfl (fun ls hl => ?_)
      refine lv_aload_n hx hb dX5_ship_50 rfl (lv_at hl 1 rfl) ?_
      refine lv_iload hx hb dX5_ship_51 (lv_at hl 0 rfl) ?_
      refine z_if_ne (tgt := 60) hx hb dX5_ship_53 (by decide) (by omega) (fun c_8 => ?_) (fun c_8 => ?_)
      · exact absurd c_8 (by decide)
      · refine z_iconst hx hb dX5_ship_56 ?_
        refine lv_goto (tgt := 74) hx hb dX5_ship_57 (by decide) ?_
        refine m_put hx hb hts in_X5_ship hown hK hR hM va_S.rf 0 (by decide) rfl lk_X5_ship_59 rfl rfl rfl rfl dX5_ship_74 (fun H_9 locsH_9 hRH_9 hzH_9 hSH_9 => ?_)
        refine lv_aload_n hx hb dX5_ship_77 rfl (lv_at hl 1 rfl) ?_
        refine m_get hx hb hts in_X5_ship hown hK hRH_9 0 (by decide) lk_X5_ship_59 rfl rfl dX5_ship_78 ?_
        refine z_top (b := 1) (by rw [zup_s]) ?_
        refine z_if_le (tgt := 86) hx hb dX5_ship_81 (by decide) (by omega) (fun c_10 => ?_) (fun c_10 => ?_)
        · exact absurd c_10 (by decide)
        · refine z_iconst hx hb dX5_ship_84 ?_
          have ht : zth_ship σ d t n g = 1 := by unfold zth_ship; (repeat' split) <;> omega
          exact W.iret hx hb hr (z_endM (post := zPost (zth_ship σ d t n g) (zan_ship (zup σ 0 0 0)) (zst_ship (zup σ 0 0 0) d t n g) (zup σ 0 0 (zth_ship σ d t n g))) (σ' := (zup σ 0 0 1)) (v := some (.int (zI 0))) (zPost_no (a := 0) ht (by decide)) hRH_9 (hzH_9.trans rfl) hSH_9) hSH_9.2.2 dX5_ship_85
    · refine lv_iload_n hx hb dX5_ship_22 rfl (lv_at hl 3 rfl) ?_
      refine z_bipush hx hb dX5_ship_23 (by decide +kernel) ?_
      refine z_bipush hx hb dX5_ship_25 (by decide +kernel) ?_
      refine z_cs (As := [.int (zI n), .int (zI 10), .int (zI 120)]) (rest := []) ⟨hx, hb, hml, hown, hts⟩ (c_X5_in l D cI cO cL b ma σ s.heap hR n 10 120 (by omega)) (va_cwS 3 hts gX5_ship_X5_in rfl rfl rfl (by decide +kernel) ⟨Nat.le_of_ble_eq_true rfl, Nat.le_of_ble_eq_true rfl⟩) (zKK_mv D cI cO cL) (fun U _ hv => va_K.moved hv hK) rfl hl.1 rfl (Nat.le_of_ble_eq_true rfl) dX5_ship_27 ⟨Nat.zero_le _, Nat.zero_le _⟩ (fun r_11 hr_11 => ?_)
      rw [hr_11]
      refine z_ifb_eq (tgt := 47) hx hb dX5_ship_30 (by decide) (fun c_12 => ?_) (fun c_12 => ?_)
      · refine z_iconst hx hb dX5_ship_47 ?_
        refine lv_istore (lv' := [(5, .int (zI 0)), (0, .ref b), (1, .int (zI d)), (2, .int (zI t)), (3, .int (zI n)), (4, .int (zI g))]) hx hb dX5_ship_48 hl (by decide) rfl (fun ls hl => ?_)
        refine lv_aload_n hx hb dX5_ship_50 rfl (lv_at hl 1 rfl) ?_
        refine lv_iload hx hb dX5_ship_51 (lv_at hl 0 rfl) ?_
        refine z_if_ne (tgt := 60) hx hb dX5_ship_53 (by decide) (by omega) (fun c_13 => ?_) (fun c_13 => ?_)
        · exact absurd c_13 (by decide)
        · refine z_iconst hx hb dX5_ship_56 ?_
          refine lv_goto (tgt := 74) hx hb dX5_ship_57 (by decide) ?_
          refine m_put hx hb hts in_X5_ship hown hK hR hM va_S.rf 0 (by decide) rfl lk_X5_ship_59 rfl rfl rfl rfl dX5_ship_74 (fun H_14 locsH_14 hRH_14 hzH_14 hSH_14 => ?_)
          refine lv_aload_n hx hb dX5_ship_77 rfl (lv_at hl 1 rfl) ?_
          refine m_get hx hb hts in_X5_ship hown hK hRH_14 0 (by decide) lk_X5_ship_59 rfl rfl dX5_ship_78 ?_
          refine z_top (b := 1) (by rw [zup_s]) ?_
          refine z_if_le (tgt := 86) hx hb dX5_ship_81 (by decide) (by omega) (fun c_15 => ?_) (fun c_15 => ?_)
          · exact absurd c_15 (by decide)
          · refine z_iconst hx hb dX5_ship_84 ?_
            have ht : zth_ship σ d t n g = 1 := by unfold zth_ship; (repeat' split) <;> omega
            exact W.iret hx hb hr (z_endM (post := zPost (zth_ship σ d t n g) (zan_ship (zup σ 0 0 0)) (zst_ship (zup σ 0 0 0) d t n g) (zup σ 0 0 (zth_ship σ d t n g))) (σ' := (zup σ 0 0 1)) (v := some (.int (zI 0))) (zPost_no (a := 0) ht (by decide)) hRH_14 (hzH_14.trans rfl) hSH_14) hSH_14.2.2 dX5_ship_85
      · refine lv_iload hx hb dX5_ship_33 (lv_at hl 4 rfl) ?_
        refine z_iconst hx hb dX5_ship_35 ?_
        refine z_iconst hx hb dX5_ship_36 ?_
        refine z_cs (As := [.int (zI g), .int (zI 0), .int (zI 3)]) (rest := []) ⟨hx, hb, hml, hown, hts⟩ (c_X5_in l D cI cO cL b ma σ s.heap hR g 0 3 (by omega)) (va_cwS 3 hts gX5_ship_X5_in rfl rfl rfl (by decide +kernel) ⟨Nat.le_of_ble_eq_true rfl, Nat.le_of_ble_eq_true rfl⟩) (zKK_mv D cI cO cL) (fun U _ hv => va_K.moved hv hK) rfl hl.1 rfl (Nat.le_of_ble_eq_true rfl) dX5_ship_37 ⟨Nat.zero_le _, Nat.zero_le _⟩ (fun r_16 hr_16 => ?_)
        rw [hr_16]
        refine z_ifb_eq (tgt := 47) hx hb dX5_ship_40 (by decide) (fun c_17 => ?_) (fun c_17 => ?_)
        · refine z_iconst hx hb dX5_ship_47 ?_
          refine lv_istore (lv' := [(5, .int (zI 0)), (0, .ref b), (1, .int (zI d)), (2, .int (zI t)), (3, .int (zI n)), (4, .int (zI g))]) hx hb dX5_ship_48 hl (by decide) rfl (fun ls hl => ?_)
          refine lv_aload_n hx hb dX5_ship_50 rfl (lv_at hl 1 rfl) ?_
          refine lv_iload hx hb dX5_ship_51 (lv_at hl 0 rfl) ?_
          refine z_if_ne (tgt := 60) hx hb dX5_ship_53 (by decide) (by omega) (fun c_18 => ?_) (fun c_18 => ?_)
          · exact absurd c_18 (by decide)
          · refine z_iconst hx hb dX5_ship_56 ?_
            refine lv_goto (tgt := 74) hx hb dX5_ship_57 (by decide) ?_
            refine m_put hx hb hts in_X5_ship hown hK hR hM va_S.rf 0 (by decide) rfl lk_X5_ship_59 rfl rfl rfl rfl dX5_ship_74 (fun H_19 locsH_19 hRH_19 hzH_19 hSH_19 => ?_)
            refine lv_aload_n hx hb dX5_ship_77 rfl (lv_at hl 1 rfl) ?_
            refine m_get hx hb hts in_X5_ship hown hK hRH_19 0 (by decide) lk_X5_ship_59 rfl rfl dX5_ship_78 ?_
            refine z_top (b := 1) (by rw [zup_s]) ?_
            refine z_if_le (tgt := 86) hx hb dX5_ship_81 (by decide) (by omega) (fun c_20 => ?_) (fun c_20 => ?_)
            · exact absurd c_20 (by decide)
            · refine z_iconst hx hb dX5_ship_84 ?_
              have ht : zth_ship σ d t n g = 1 := by unfold zth_ship; (repeat' split) <;> omega
              exact W.iret hx hb hr (z_endM (post := zPost (zth_ship σ d t n g) (zan_ship (zup σ 0 0 0)) (zst_ship (zup σ 0 0 0) d t n g) (zup σ 0 0 (zth_ship σ d t n g))) (σ' := (zup σ 0 0 1)) (v := some (.int (zI 0))) (zPost_no (a := 0) ht (by decide)) hRH_19 (hzH_19.trans rfl) hSH_19) hSH_19.2.2 dX5_ship_85
        · refine z_iconst hx hb dX5_ship_43 ?_
          refine lv_goto (tgt := 48) hx hb dX5_ship_44 (by decide) ?_
          refine lv_istore (lv' := [(5, .int (zI 1)), (0, .ref b), (1, .int (zI d)), (2, .int (zI t)), (3, .int (zI n)), (4, .int (zI g))]) hx hb dX5_ship_48 hl (by decide) rfl (fun ls hl => ?_)
          refine lv_aload_n hx hb dX5_ship_50 rfl (lv_at hl 1 rfl) ?_
          refine lv_iload hx hb dX5_ship_51 (lv_at hl 0 rfl) ?_
          refine z_if_ne (tgt := 60) hx hb dX5_ship_53 (by decide) (by omega) (fun c_21 => ?_) (fun c_21 => ?_)
          · refine lv_aload_n hx hb dX5_ship_60 rfl (lv_at hl 1 rfl) ?_
            refine m_get hx hb hts in_X5_ship hown hK hR 5 (by decide) lk_X5_ship_62 rfl rfl dX5_ship_61 ?_
            refine z_bipush hx hb dX5_ship_64 (by decide +kernel) ?_
            refine z_icmp_ne (tgt := 73) hx hb dX5_ship_66 (by decide) (by omega) (fun c_22 => ?_) (fun c_22 => ?_)
            · refine z_iconst hx hb dX5_ship_73 ?_
              refine m_put hx hb hts in_X5_ship hown hK hR hM va_S.rf 0 (by decide) rfl lk_X5_ship_59 rfl rfl rfl rfl dX5_ship_74 (fun H_23 locsH_23 hRH_23 hzH_23 hSH_23 => ?_)
              refine lv_aload_n hx hb dX5_ship_77 rfl (lv_at hl 1 rfl) ?_
              refine m_get hx hb hts in_X5_ship hown hK hRH_23 0 (by decide) lk_X5_ship_59 rfl rfl dX5_ship_78 ?_
              refine z_top (b := 0) (by rw [zup_s]) ?_
              refine z_if_le (tgt := 86) hx hb dX5_ship_81 (by decide) (by omega) (fun c_24 => ?_) (fun c_24 => ?_)
              · refine lv_aload_n hx hb dX5_ship_86 rfl (lv_at hl 1 rfl) ?_
                refine m_get hx hb hts in_X5_ship hown hK hRH_23 6 (by decide) lk_X5_ship_19 rfl rfl dX5_ship_87 ?_
                refine lv_aload_n hx hb dX5_ship_90 rfl (lv_at hl 1 rfl) ?_
                refine m_get hx hb hts in_X5_ship hown hK hRH_23 5 (by decide) lk_X5_ship_62 rfl rfl dX5_ship_91 ?_
                refine z_top (b := σ 5 0) (by rw [zup_t (t := 0) (t' := 5) (by decide)]) ?_
                refine lv_iload_n hx hb dX5_ship_94 rfl (lv_at hl 2 rfl) ?_
                refine m_ast hx hb hK hRH_23 hM hSH_23 6 rfl (by show 0 ≤ (σ 5 0) ∧ (σ 5 0) < ((12 : Nat) : Int); omega) dX5_ship_95 (fun H_25 locsH_25 hRH_25 hzH_25 hSH_25 => ?_)
                refine lv_aload_n hx hb dX5_ship_96 rfl (lv_at hl 1 rfl) ?_
                refine m_get hx hb hts in_X5_ship hown hK hRH_25 7 (by decide) lk_X5_ship_23 rfl rfl dX5_ship_97 ?_
                refine lv_aload_n hx hb dX5_ship_100 rfl (lv_at hl 1 rfl) ?_
                refine m_get hx hb hts in_X5_ship hown hK hRH_25 5 (by decide) lk_X5_ship_62 rfl rfl dX5_ship_101 ?_
                refine z_top (b := σ 5 0) (by rw [zup_t (t := 6) (t' := 5) (by decide), zup_t (t := 0) (t' := 5) (by decide)]) ?_
                refine lv_iload_n hx hb dX5_ship_104 rfl (lv_at hl 3 rfl) ?_
                refine m_ast hx hb hK hRH_25 hM hSH_25 7 rfl (by show 0 ≤ (σ 5 0) ∧ (σ 5 0) < ((12 : Nat) : Int); omega) dX5_ship_105 (fun H_26 locsH_26 hRH_26 hzH_26 hSH_26 => ?_)
                refine lv_aload_n hx hb dX5_ship_106 rfl (lv_at hl 1 rfl) ?_
                refine m_get hx hb hts in_X5_ship hown hK hRH_26 8 (by decide) lk_X5_ship_26 rfl rfl dX5_ship_107 ?_
                refine lv_aload_n hx hb dX5_ship_110 rfl (lv_at hl 1 rfl) ?_
                refine m_get hx hb hts in_X5_ship hown hK hRH_26 5 (by decide) lk_X5_ship_62 rfl rfl dX5_ship_111 ?_
                refine z_top (b := σ 5 0) (by rw [zup_t (t := 7) (t' := 5) (by decide), zup_t (t := 6) (t' := 5) (by decide), zup_t (t := 0) (t' := 5) (by decide)]) ?_
                refine lv_iload_n hx hb dX5_ship_114 rfl (lv_at hl 4 rfl) ?_
                refine m_ast hx hb hK hRH_26 hM hSH_26 8 rfl (by show 0 ≤ (σ 5 0) ∧ (σ 5 0) < ((12 : Nat) : Int); omega) dX5_ship_115 (fun H_27 locsH_27 hRH_27 hzH_27 hSH_27 => ?_)
                refine lv_aload_n hx hb dX5_ship_116 rfl (lv_at hl 1 rfl) ?_
                refine m_get hx hb hts in_X5_ship hown hK hRH_27 9 (by decide) lk_X5_ship_29 rfl rfl dX5_ship_117 ?_
                refine lv_aload_n hx hb dX5_ship_120 rfl (lv_at hl 1 rfl) ?_
                refine m_get hx hb hts in_X5_ship hown hK hRH_27 5 (by decide) lk_X5_ship_62 rfl rfl dX5_ship_121 ?_
                refine z_top (b := σ 5 0) (by rw [zup_t (t := 8) (t' := 5) (by decide), zup_t (t := 7) (t' := 5) (by decide), zup_t (t := 6) (t' := 5) (by decide), zup_t (t := 0) (t' := 5) (by decide)]) ?_
                refine lv_iload hx hb dX5_ship_124 (lv_at hl 5 rfl) ?_
                refine m_ast hx hb hK hRH_27 hM hSH_27 9 rfl (by show 0 ≤ (σ 5 0) ∧ (σ 5 0) < ((12 : Nat) : Int); omega) dX5_ship_126 (fun H_28 locsH_28 hRH_28 hzH_28 hSH_28 => ?_)
                refine lv_aload_n hx hb dX5_ship_127 rfl (lv_at hl 1 rfl) ?_
                refine lv_dup hx hb dX5_ship_128 rfl ?_
                refine m_get hx hb hts in_X5_ship hown hK hRH_28 5 (by decide) lk_X5_ship_62 rfl rfl dX5_ship_129 ?_
                refine z_top (b := σ 5 0) (by rw [zup_t (t := 9) (t' := 5) (by decide), zup_t (t := 8) (t' := 5) (by decide), zup_t (t := 7) (t' := 5) (by decide), zup_t (t := 6) (t' := 5) (by decide), zup_t (t := 0) (t' := 5) (by decide)]) ?_
                refine z_iconst hx hb dX5_ship_132 ?_
                refine z_iadd hx hb dX5_ship_133 ?_
                refine m_put hx hb hts in_X5_ship hown hK hRH_28 hM hSH_28 5 (by decide) rfl lk_X5_ship_62 rfl rfl rfl rfl dX5_ship_134 (fun H_29 locsH_29 hRH_29 hzH_29 hSH_29 => ?_)
                refine lv_aload_n hx hb dX5_ship_137 rfl (lv_at hl 1 rfl) ?_
                refine m_get hx hb hts in_X5_ship hown hK hRH_29 5 (by decide) lk_X5_ship_62 rfl rfl dX5_ship_138 ?_
                refine z_top (b := ((σ 5 0) + 1)) (by rw [zup_s]) ?_
                refine z_iconst hx hb dX5_ship_141 ?_
                refine z_isub hx hb dX5_ship_142 ?_
                have ht : zth_ship σ d t n g = 0 := by unfold zth_ship; (repeat' split) <;> omega
                exact W.iret hx hb hr (z_endM (post := zPost (zth_ship σ d t n g) (zan_ship (zup σ 0 0 0)) (zst_ship (zup σ 0 0 0) d t n g) (zup σ 0 0 (zth_ship σ d t n g))) (σ' := (zup (zup (zup (zup (zup (zup σ 0 0 0) 6 (σ 5 0) d) 7 (σ 5 0) t) 8 (σ 5 0) n) 9 (σ 5 0) g) 5 0 ((σ 5 0) + 1))) (v := some (.int (zI (((σ 5 0) + 1) - 1)))) (zPost_ok (a := (((σ 5 0) + 1) - 1)) ht (by show _ = σ 5 0; omega) (by rfl)) hRH_29 (hzH_29.trans (hzH_28.trans (hzH_27.trans (hzH_26.trans (hzH_25.trans (hzH_23.trans rfl)))))) hSH_29) hSH_29.2.2 dX5_ship_143
              · exact absurd c_24 (by decide)
            · refine z_iconst hx hb dX5_ship_69 ?_
              refine lv_goto (tgt := 74) hx hb dX5_ship_70 (by decide) ?_
              refine m_put hx hb hts in_X5_ship hown hK hR hM va_S.rf 0 (by decide) rfl lk_X5_ship_59 rfl rfl rfl rfl dX5_ship_74 (fun H_30 locsH_30 hRH_30 hzH_30 hSH_30 => ?_)
              refine lv_aload_n hx hb dX5_ship_77 rfl (lv_at hl 1 rfl) ?_
              refine m_get hx hb hts in_X5_ship hown hK hRH_30 0 (by decide) lk_X5_ship_59 rfl rfl dX5_ship_78 ?_
              refine z_top (b := 2) (by rw [zup_s]) ?_
              refine z_if_le (tgt := 86) hx hb dX5_ship_81 (by decide) (by omega) (fun c_31 => ?_) (fun c_31 => ?_)
              · exact absurd c_31 (by decide)
              · refine z_iconst hx hb dX5_ship_84 ?_
                have ht : zth_ship σ d t n g = 2 := by unfold zth_ship; (repeat' split) <;> omega
                exact W.iret hx hb hr (z_endM (post := zPost (zth_ship σ d t n g) (zan_ship (zup σ 0 0 0)) (zst_ship (zup σ 0 0 0) d t n g) (zup σ 0 0 (zth_ship σ d t n g))) (σ' := (zup σ 0 0 2)) (v := some (.int (zI 0))) (zPost_no (a := 0) ht (by decide)) hRH_30 (hzH_30.trans rfl) hSH_30) hSH_30.2.2 dX5_ship_85
          · exact absurd c_21 (by decide)

theorem lk_X5_pilot_59 : Cond.fieldLink RX5 59 "HarbourPilotlineModel" "thrown" "I" ∈ wsX5_pilot := by decide +kernel
theorem lk_X5_pilot_68 : Cond.fieldLink RX5 68 "HarbourPilotlineModel" "pilots" "I" ∈ wsX5_pilot := by decide +kernel
theorem lk_X5_pilot_35 : Cond.fieldLink RX5 35 "HarbourPilotlineModel" "licence" "[I" ∈ wsX5_pilot := by decide +kernel
theorem lk_X5_pilot_38 : Cond.fieldLink RX5 38 "HarbourPilotlineModel" "rate" "[I" ∈ wsX5_pilot := by decide +kernel
theorem in_X5_pilot : ∀ w ∈ wsX50, w ∈ wsX5_pilot := by decide +kernel
set_option maxRecDepth 100000 in
set_option maxHeartbeats 4000000 in
theorem c_X5_pilot (l : Launch) (D : va_G) (cI cO cL : ClassId) (b : Nat) (ma : Nat → Nat) (hM : MA b ma) (σ : zT) (H0 : Heap) (hR : RM D cI b ma σ H0) (a q : Int) (hI : zInv σ) (ha : (-2147483648 ≤ a ∧ a < 2147483648)) (hq : (-2147483648 ≤ q ∧ q < 2147483648)) : zWM l yX5_pilot wsX5_pilot ({ frames := 1, cells := 0, slots := 0, locals := 22 }) D cI cO cL b ma [.ref b, .int (zI a), .int (zI q)] H0 (zPost (zth_pilot σ a q) (zan_pilot (zup σ 0 0 0)) (zst_pilot (zup σ 0 0 0) a q) (zup σ 0 0 (zth_pilot σ a q))) := by
  refine Met.ofW (cc := cX5_pilot) (maxL := 4) (ret := (some .int)) (by decide) rfl ?_
  intro p e s m args below meth c s₁ B hml hv
  obtain ⟨rfl, hH, hK⟩ := hv
  subst hH
  have hx := B.exec
  have hb := B.bytes
  have hr := B.returns
  have hts := atoms_spec (ws := wsX5_pilot) B.pre
  have hown : s.vm.findClass RX5 = some m.cls := findClass_of_methodNamed B.named
  have hlocks := B.notSynchronized
  have hl := lv_entry ([.ref b, .int (zI a), .int (zI q)]) (n := 4) (Nat.le_of_ble_eq_true rfl)
  rw [lg_entry_eq]
  generalize (lg_sl ([.ref b, .int (zI a), .int (zI q)]) ++ List.replicate (4 - (lg_sl ([.ref b, .int (zI a), .int (zI q)])).length) Slot.unset).toArray = ls at hl ⊢
  have hl : lv_has ls 4 [(0, .ref b), (1, .int (zI a)), (2, .int (zI q))] := hl
  have f0 := hI.r
  refine lv_iload_n hx hb dX5_pilot_0 rfl (lv_at hl 1 rfl) ?_
  refine z_iconst hx hb dX5_pilot_1 ?_
  refine z_sipush hx hb dX5_pilot_2 (by decide +kernel) ?_
  refine z_cs (As := [.int (zI a), .int (zI 1), .int (zI 9999)]) (rest := []) ⟨hx, hb, hml, hown, hts⟩ (c_X5_in l D cI cO cL b ma σ s.heap hR a 1 9999 (by omega)) (va_cwS 3 hts gX5_pilot_X5_in rfl rfl rfl (by decide +kernel) ⟨Nat.le_of_ble_eq_true rfl, Nat.le_of_ble_eq_true rfl⟩) (zKK_mv D cI cO cL) (fun U _ hv => va_K.moved hv hK) rfl hl.1 rfl (Nat.le_of_ble_eq_true rfl) dX5_pilot_5 ⟨Nat.zero_le _, Nat.zero_le _⟩ (fun r_1 hr_1 => ?_)
  rw [hr_1]
  refine z_ifb_eq (tgt := 25) hx hb dX5_pilot_8 (by decide) (fun c_2 => ?_) (fun c_2 => ?_)
  · refine z_iconst hx hb dX5_pilot_25 ?_
    refine lv_istore_n (lv' := [(3, .int (zI 0)), (0, .ref b), (1, .int (zI a)), (2, .int (zI q))]) hx hb dX5_pilot_26 rfl hl (by decide) rfl (fun ls hl => ?_)
    refine lv_aload_n hx hb dX5_pilot_27 rfl (lv_at hl 1 rfl) ?_
    refine lv_iload_n hx hb dX5_pilot_28 rfl (lv_at hl 0 rfl) ?_
    refine z_if_ne (tgt := 36) hx hb dX5_pilot_29 (by decide) (by omega) (fun c_3 => ?_) (fun c_3 => ?_)
    · exact absurd c_3 (by decide)
    · refine z_iconst hx hb dX5_pilot_32 ?_
      refine lv_goto (tgt := 50) hx hb dX5_pilot_33 (by decide) ?_
      refine m_put hx hb hts in_X5_pilot hown hK hR hM va_S.rf 0 (by decide) rfl lk_X5_pilot_59 rfl rfl rfl rfl dX5_pilot_50 (fun H_4 locsH_4 hRH_4 hzH_4 hSH_4 => ?_)
      refine lv_aload_n hx hb dX5_pilot_53 rfl (lv_at hl 1 rfl) ?_
      refine m_get hx hb hts in_X5_pilot hown hK hRH_4 0 (by decide) lk_X5_pilot_59 rfl rfl dX5_pilot_54 ?_
      refine z_top (b := 1) (by rw [zup_s]) ?_
      refine z_if_le (tgt := 62) hx hb dX5_pilot_57 (by decide) (by omega) (fun c_5 => ?_) (fun c_5 => ?_)
      · exact absurd c_5 (by decide)
      · refine z_iconst hx hb dX5_pilot_60 ?_
        have ht : zth_pilot σ a q = 1 := by unfold zth_pilot; (repeat' split) <;> omega
        exact W.iret hx hb hr (z_endM (post := zPost (zth_pilot σ a q) (zan_pilot (zup σ 0 0 0)) (zst_pilot (zup σ 0 0 0) a q) (zup σ 0 0 (zth_pilot σ a q))) (σ' := (zup σ 0 0 1)) (v := some (.int (zI 0))) (zPost_no (a := 0) ht (by decide)) hRH_4 (hzH_4.trans rfl) hSH_4) hSH_4.2.2 dX5_pilot_61
  · refine lv_iload_n hx hb dX5_pilot_11 rfl (lv_at hl 2 rfl) ?_
    refine z_iconst hx hb dX5_pilot_12 ?_
    refine z_bipush hx hb dX5_pilot_13 (by decide +kernel) ?_
    refine z_cs (As := [.int (zI q), .int (zI 1), .int (zI 50)]) (rest := []) ⟨hx, hb, hml, hown, hts⟩ (c_X5_in l D cI cO cL b ma σ s.heap hR q 1 50 (by omega)) (va_cwS 3 hts gX5_pilot_X5_in rfl rfl rfl (by decide +kernel) ⟨Nat.le_of_ble_eq_true rfl, Nat.le_of_ble_eq_true rfl⟩) (zKK_mv D cI cO cL) (fun U _ hv => va_K.moved hv hK) rfl hl.1 rfl (Nat.le_of_ble_eq_true rfl) dX5_pilot_15 ⟨Nat.zero_le _, Nat.zero_le _⟩ (fun r_6 hr_6 => ?_)
    rw [hr_6]
    refine z_ifb_eq (tgt := 25) hx hb dX5_pilot_18 (by decide) (fun c_7 => ?_) (fun c_7 => ?_)
    · refine z_iconst hx hb dX5_pilot_25 ?_
      refine lv_istore_n (lv' := [(3, .int (zI 0)), (0, .ref b), (1, .int (zI a)), (2, .int (zI q))]) hx hb dX5_pilot_26 rfl hl (by decide) rfl (fun ls hl => ?_)
      refine lv_aload_n hx hb dX5_pilot_27 rfl (lv_at hl 1 rfl) ?_
      refine lv_iload_n hx hb dX5_pilot_28 rfl (lv_at hl 0 rfl) ?_
      refine z_if_ne (tgt := 36) hx hb dX5_pilot_29 (by decide) (by omega) (fun c_8 => ?_) (fun c_8 => ?_)
      · exact absurd c_8 (by decide)
      · refine z_iconst hx hb dX5_pilot_32 ?_
        refine lv_goto (tgt := 50) hx hb dX5_pilot_33 (by decide) ?_
        refine m_put hx hb hts in_X5_pilot hown hK hR hM va_S.rf 0 (by decide) rfl lk_X5_pilot_59 rfl rfl rfl rfl dX5_pilot_50 (fun H_9 locsH_9 hRH_9 hzH_9 hSH_9 => ?_)
        refine lv_aload_n hx hb dX5_pilot_53 rfl (lv_at hl 1 rfl) ?_
        refine m_get hx hb hts in_X5_pilot hown hK hRH_9 0 (by decide) lk_X5_pilot_59 rfl rfl dX5_pilot_54 ?_
        refine z_top (b := 1) (by rw [zup_s]) ?_
        refine z_if_le (tgt := 62) hx hb dX5_pilot_57 (by decide) (by omega) (fun c_10 => ?_) (fun c_10 => ?_)
        · exact absurd c_10 (by decide)
        · refine z_iconst hx hb dX5_pilot_60 ?_
          have ht : zth_pilot σ a q = 1 := by unfold zth_pilot; (repeat' split) <;> omega
          exact W.iret hx hb hr (z_endM (post := zPost (zth_pilot σ a q) (zan_pilot (zup σ 0 0 0)) (zst_pilot (zup σ 0 0 0) a q) (zup σ 0 0 (zth_pilot σ a q))) (σ' := (zup σ 0 0 1)) (v := some (.int (zI 0))) (zPost_no (a := 0) ht (by decide)) hRH_9 (hzH_9.trans rfl) hSH_9) hSH_9.2.2 dX5_pilot_61
    · refine z_iconst hx hb dX5_pilot_21 ?_
      refine lv_goto (tgt := 26) hx hb dX5_pilot_22 (by decide) ?_
      refine lv_istore_n (lv' := [(3, .int (zI 1)), (0, .ref b), (1, .int (zI a)), (2, .int (zI q))]) hx hb dX5_pilot_26 rfl hl (by decide) rfl (fun ls hl => ?_)
      refine lv_aload_n hx hb dX5_pilot_27 rfl (lv_at hl 1 rfl) ?_
      refine lv_iload_n hx hb dX5_pilot_28 rfl (lv_at hl 0 rfl) ?_
      refine z_if_ne (tgt := 36) hx hb dX5_pilot_29 (by decide) (by omega) (fun c_11 => ?_) (fun c_11 => ?_)
      · refine lv_aload_n hx hb dX5_pilot_36 rfl (lv_at hl 1 rfl) ?_
        refine m_get hx hb hts in_X5_pilot hown hK hR 11 (by decide) lk_X5_pilot_68 rfl rfl dX5_pilot_37 ?_
        refine z_bipush hx hb dX5_pilot_40 (by decide +kernel) ?_
        refine z_icmp_ne (tgt := 49) hx hb dX5_pilot_42 (by decide) (by omega) (fun c_12 => ?_) (fun c_12 => ?_)
        · refine z_iconst hx hb dX5_pilot_49 ?_
          refine m_put hx hb hts in_X5_pilot hown hK hR hM va_S.rf 0 (by decide) rfl lk_X5_pilot_59 rfl rfl rfl rfl dX5_pilot_50 (fun H_13 locsH_13 hRH_13 hzH_13 hSH_13 => ?_)
          refine lv_aload_n hx hb dX5_pilot_53 rfl (lv_at hl 1 rfl) ?_
          refine m_get hx hb hts in_X5_pilot hown hK hRH_13 0 (by decide) lk_X5_pilot_59 rfl rfl dX5_pilot_54 ?_
          refine z_top (b := 0) (by rw [zup_s]) ?_
          refine z_if_le (tgt := 62) hx hb dX5_pilot_57 (by decide) (by omega) (fun c_14 => ?_) (fun c_14 => ?_)
          · refine lv_aload_n hx hb dX5_pilot_62 rfl (lv_at hl 1 rfl) ?_
            refine m_get hx hb hts in_X5_pilot hown hK hRH_13 12 (by decide) lk_X5_pilot_35 rfl rfl dX5_pilot_63 ?_
            refine lv_aload_n hx hb dX5_pilot_66 rfl (lv_at hl 1 rfl) ?_
            refine m_get hx hb hts in_X5_pilot hown hK hRH_13 11 (by decide) lk_X5_pilot_68 rfl rfl dX5_pilot_67 ?_
            refine z_top (b := σ 11 0) (by rw [zup_t (t := 0) (t' := 11) (by decide)]) ?_
            refine lv_iload_n hx hb dX5_pilot_70 rfl (lv_at hl 2 rfl) ?_
            refine m_ast hx hb hK hRH_13 hM hSH_13 12 rfl (by show 0 ≤ (σ 11 0) ∧ (σ 11 0) < ((8 : Nat) : Int); omega) dX5_pilot_71 (fun H_15 locsH_15 hRH_15 hzH_15 hSH_15 => ?_)
            refine lv_aload_n hx hb dX5_pilot_72 rfl (lv_at hl 1 rfl) ?_
            refine m_get hx hb hts in_X5_pilot hown hK hRH_15 13 (by decide) lk_X5_pilot_38 rfl rfl dX5_pilot_73 ?_
            refine lv_aload_n hx hb dX5_pilot_76 rfl (lv_at hl 1 rfl) ?_
            refine m_get hx hb hts in_X5_pilot hown hK hRH_15 11 (by decide) lk_X5_pilot_68 rfl rfl dX5_pilot_77 ?_
            refine z_top (b := σ 11 0) (by rw [zup_t (t := 12) (t' := 11) (by decide), zup_t (t := 0) (t' := 11) (by decide)]) ?_
            refine lv_iload_n hx hb dX5_pilot_80 rfl (lv_at hl 3 rfl) ?_
            refine m_ast hx hb hK hRH_15 hM hSH_15 13 rfl (by show 0 ≤ (σ 11 0) ∧ (σ 11 0) < ((8 : Nat) : Int); omega) dX5_pilot_81 (fun H_16 locsH_16 hRH_16 hzH_16 hSH_16 => ?_)
            refine lv_aload_n hx hb dX5_pilot_82 rfl (lv_at hl 1 rfl) ?_
            refine lv_dup hx hb dX5_pilot_83 rfl ?_
            refine m_get hx hb hts in_X5_pilot hown hK hRH_16 11 (by decide) lk_X5_pilot_68 rfl rfl dX5_pilot_84 ?_
            refine z_top (b := σ 11 0) (by rw [zup_t (t := 13) (t' := 11) (by decide), zup_t (t := 12) (t' := 11) (by decide), zup_t (t := 0) (t' := 11) (by decide)]) ?_
            refine z_iconst hx hb dX5_pilot_87 ?_
            refine z_iadd hx hb dX5_pilot_88 ?_
            refine m_put hx hb hts in_X5_pilot hown hK hRH_16 hM hSH_16 11 (by decide) rfl lk_X5_pilot_68 rfl rfl rfl rfl dX5_pilot_89 (fun H_17 locsH_17 hRH_17 hzH_17 hSH_17 => ?_)
            refine lv_aload_n hx hb dX5_pilot_92 rfl (lv_at hl 1 rfl) ?_
            refine m_get hx hb hts in_X5_pilot hown hK hRH_17 11 (by decide) lk_X5_pilot_68 rfl rfl dX5_pilot_93 ?_
            refine z_top (b := ((σ 11 0) + 1)) (by rw [zup_s]) ?_
            refine z_iconst hx hb dX5_pilot_96 ?_
            refine z_isub hx hb dX5_pilot_97 ?_
            have ht : zth_pilot σ a q = 0 := by unfold zth_pilot; (repeat' split) <;> omega
            exact W.iret hx hb hr (z_endM (post := zPost (zth_pilot σ a q) (zan_pilot (zup σ 0 0 0)) (zst_pilot (zup σ 0 0 0) a q) (zup σ 0 0 (zth_pilot σ a q))) (σ' := (zup (zup (zup (zup σ 0 0 0) 12 (σ 11 0) a) 13 (σ 11 0) q) 11 0 ((σ 11 0) + 1))) (v := some (.int (zI (((σ 11 0) + 1) - 1)))) (zPost_ok (a := (((σ 11 0) + 1) - 1)) ht (by show _ = σ 11 0; omega) (by rfl)) hRH_17 (hzH_17.trans (hzH_16.trans (hzH_15.trans (hzH_13.trans rfl)))) hSH_17) hSH_17.2.2 dX5_pilot_98
          · exact absurd c_14 (by decide)
        · refine z_iconst hx hb dX5_pilot_45 ?_
          refine lv_goto (tgt := 50) hx hb dX5_pilot_46 (by decide) ?_
          refine m_put hx hb hts in_X5_pilot hown hK hR hM va_S.rf 0 (by decide) rfl lk_X5_pilot_59 rfl rfl rfl rfl dX5_pilot_50 (fun H_18 locsH_18 hRH_18 hzH_18 hSH_18 => ?_)
          refine lv_aload_n hx hb dX5_pilot_53 rfl (lv_at hl 1 rfl) ?_
          refine m_get hx hb hts in_X5_pilot hown hK hRH_18 0 (by decide) lk_X5_pilot_59 rfl rfl dX5_pilot_54 ?_
          refine z_top (b := 2) (by rw [zup_s]) ?_
          refine z_if_le (tgt := 62) hx hb dX5_pilot_57 (by decide) (by omega) (fun c_19 => ?_) (fun c_19 => ?_)
          · exact absurd c_19 (by decide)
          · refine z_iconst hx hb dX5_pilot_60 ?_
            have ht : zth_pilot σ a q = 2 := by unfold zth_pilot; (repeat' split) <;> omega
            exact W.iret hx hb hr (z_endM (post := zPost (zth_pilot σ a q) (zan_pilot (zup σ 0 0 0)) (zst_pilot (zup σ 0 0 0) a q) (zup σ 0 0 (zth_pilot σ a q))) (σ' := (zup σ 0 0 2)) (v := some (.int (zI 0))) (zPost_no (a := 0) ht (by decide)) hRH_18 (hzH_18.trans rfl) hSH_18) hSH_18.2.2 dX5_pilot_61
      · exact absurd c_11 (by decide)

theorem lk_X5_call_92 : Cond.fieldLink RX5 92 "HarbourPilotlineModel" "now" "I" ∈ wsX5_call := by decide +kernel
theorem lk_X5_call_71 : Cond.fieldLink RX5 71 "HarbourPilotlineModel" "conferences" "I" ∈ wsX5_call := by decide +kernel
theorem lk_X5_call_59 : Cond.fieldLink RX5 59 "HarbourPilotlineModel" "thrown" "I" ∈ wsX5_call := by decide +kernel
theorem lk_X5_call_41 : Cond.fieldLink RX5 41 "HarbourPilotlineModel" "ship" "[I" ∈ wsX5_call := by decide +kernel
theorem lk_X5_call_44 : Cond.fieldLink RX5 44 "HarbourPilotlineModel" "wish" "[I" ∈ wsX5_call := by decide +kernel
theorem lk_X5_call_50 : Cond.fieldLink RX5 50 "HarbourPilotlineModel" "pilot" "[I" ∈ wsX5_call := by decide +kernel
theorem lk_X5_call_56 : Cond.fieldLink RX5 56 "HarbourPilotlineModel" "slot" "[I" ∈ wsX5_call := by decide +kernel
theorem lk_X5_call_53 : Cond.fieldLink RX5 53 "HarbourPilotlineModel" "state" "[I" ∈ wsX5_call := by decide +kernel
theorem in_X5_call : ∀ w ∈ wsX50, w ∈ wsX5_call := by decide +kernel
set_option maxRecDepth 100000 in
set_option maxHeartbeats 4000000 in
theorem c_X5_call (l : Launch) (D : va_G) (cI cO cL : ClassId) (b : Nat) (ma : Nat → Nat) (hM : MA b ma) (σ : zT) (H0 : Heap) (hR : RM D cI b ma σ H0) (k w : Int) (hI : zInv σ) (hk : (-2147483648 ≤ k ∧ k < 2147483648)) (hw : (-2147483648 ≤ w ∧ w < 2147483648)) : zWM l yX5_call wsX5_call ({ frames := 2, cells := 0, slots := 0, locals := 43 }) D cI cO cL b ma [.ref b, .int (zI k), .int (zI w)] H0 (zPost (zth_call σ k w) (zan_call (zup σ 0 0 0)) (zst_call (zup σ 0 0 0) k w) (zup σ 0 0 (zth_call σ k w))) := by
  refine Met.ofW (cc := cX5_call) (maxL := 3) (ret := (some .int)) (by decide) rfl ?_
  intro p e s m args below meth c s₁ B hml hv
  obtain ⟨rfl, hH, hK⟩ := hv
  subst hH
  have hx := B.exec
  have hb := B.bytes
  have hr := B.returns
  have hts := atoms_spec (ws := wsX5_call) B.pre
  have hown : s.vm.findClass RX5 = some m.cls := findClass_of_methodNamed B.named
  have hlocks := B.notSynchronized
  have hl := lv_entry ([.ref b, .int (zI k), .int (zI w)]) (n := 3) (Nat.le_of_ble_eq_true rfl)
  rw [lg_entry_eq]
  generalize (lg_sl ([.ref b, .int (zI k), .int (zI w)]) ++ List.replicate (3 - (lg_sl ([.ref b, .int (zI k), .int (zI w)])).length) Slot.unset).toArray = ls at hl ⊢
  have hl : lv_has ls 3 [(0, .ref b), (1, .int (zI k)), (2, .int (zI w))] := hl
  have f0 := hI.r
  refine lv_aload_n hx hb dX5_call_0 rfl (lv_at hl 0 rfl) ?_
  refine lv_aload_n hx hb dX5_call_1 rfl (lv_at hl 0 rfl) ?_
  refine lv_iload_n hx hb dX5_call_2 rfl (lv_at hl 1 rfl) ?_
  refine z_cv (As := [.int (zI k)]) (rest := [.ref b]) ⟨hx, hb, hml, hown, hts⟩ (c_X5_isShip l D cI cO cL b ma σ s.heap hR k (by omega) (by omega)) (cwV 1 hts gX5_call_X5_isShip rfl rfl rfl (by decide +kernel) ⟨Nat.le_of_ble_eq_true rfl, Nat.le_of_ble_eq_true rfl⟩) (zKK_mv D cI cO cL) (fun U _ hv => va_K.moved hv hK) (m_recv hK hR) rfl hl.1 rfl (Nat.le_of_ble_eq_true rfl) dX5_call_3 ⟨Nat.zero_le _, Nat.zero_le _⟩ (fun r_1 hr_1 => ?_)
  rw [hr_1]
  refine z_ifb_ne (tgt := 13) hx hb dX5_call_6 (by decide) (fun c_2 => ?_) (fun c_2 => ?_)
  · refine lv_iload_n hx hb dX5_call_13 rfl (lv_at hl 2 rfl) ?_
    refine lv_aload_n hx hb dX5_call_14 rfl (lv_at hl 0 rfl) ?_
    refine m_get hx hb hts in_X5_call hown hK hR 1 (by decide) lk_X5_call_92 rfl rfl dX5_call_15 ?_
    refine z_sipush hx hb dX5_call_18 (by decide +kernel) ?_
    refine z_cs (As := [.int (zI w), .int (zI (σ 1 0)), .int (zI 20000)]) (rest := [.ref b]) ⟨hx, hb, hml, hown, hts⟩ (c_X5_in l D cI cO cL b ma σ s.heap hR w (σ 1 0) 20000 (by omega)) (va_cwS 3 hts gX5_call_X5_in rfl rfl rfl (by decide +kernel) ⟨Nat.le_of_ble_eq_true rfl, Nat.le_of_ble_eq_true rfl⟩) (zKK_mv D cI cO cL) (fun U _ hv => va_K.moved hv hK) rfl hl.1 rfl (Nat.le_of_ble_eq_true rfl) dX5_call_21 ⟨Nat.zero_le _, Nat.zero_le _⟩ (fun r_3 hr_3 => ?_)
    rw [hr_3]
    refine z_ifb_ne (tgt := 31) hx hb dX5_call_24 (by decide) (fun c_4 => ?_) (fun c_4 => ?_)
    · refine lv_aload_n hx hb dX5_call_31 rfl (lv_at hl 0 rfl) ?_
      refine m_get hx hb hts in_X5_call hown hK hR 14 (by decide) lk_X5_call_71 rfl rfl dX5_call_32 ?_
      refine z_bipush hx hb dX5_call_35 (by decide +kernel) ?_
      refine z_icmp_ne (tgt := 44) hx hb dX5_call_37 (by decide) (by omega) (fun c_5 => ?_) (fun c_5 => ?_)
      · refine z_iconst hx hb dX5_call_44 ?_
        refine m_put hx hb hts in_X5_call hown hK hR hM va_S.rf 0 (by decide) rfl lk_X5_call_59 rfl rfl rfl rfl dX5_call_45 (fun H_6 locsH_6 hRH_6 hzH_6 hSH_6 => ?_)
        refine lv_aload_n hx hb dX5_call_48 rfl (lv_at hl 0 rfl) ?_
        refine m_get hx hb hts in_X5_call hown hK hRH_6 0 (by decide) lk_X5_call_59 rfl rfl dX5_call_49 ?_
        refine z_top (b := 0) (by rw [zup_s]) ?_
        refine z_if_le (tgt := 57) hx hb dX5_call_52 (by decide) (by omega) (fun c_7 => ?_) (fun c_7 => ?_)
        · refine lv_aload_n hx hb dX5_call_57 rfl (lv_at hl 0 rfl) ?_
          refine m_get hx hb hts in_X5_call hown hK hRH_6 15 (by decide) lk_X5_call_41 rfl rfl dX5_call_58 ?_
          refine lv_aload_n hx hb dX5_call_61 rfl (lv_at hl 0 rfl) ?_
          refine m_get hx hb hts in_X5_call hown hK hRH_6 14 (by decide) lk_X5_call_71 rfl rfl dX5_call_62 ?_
          refine z_top (b := σ 14 0) (by rw [zup_t (t := 0) (t' := 14) (by decide)]) ?_
          refine lv_iload_n hx hb dX5_call_65 rfl (lv_at hl 1 rfl) ?_
          refine m_ast hx hb hK hRH_6 hM hSH_6 15 rfl (by show 0 ≤ (σ 14 0) ∧ (σ 14 0) < ((40 : Nat) : Int); omega) dX5_call_66 (fun H_8 locsH_8 hRH_8 hzH_8 hSH_8 => ?_)
          refine lv_aload_n hx hb dX5_call_67 rfl (lv_at hl 0 rfl) ?_
          refine m_get hx hb hts in_X5_call hown hK hRH_8 16 (by decide) lk_X5_call_44 rfl rfl dX5_call_68 ?_
          refine lv_aload_n hx hb dX5_call_71 rfl (lv_at hl 0 rfl) ?_
          refine m_get hx hb hts in_X5_call hown hK hRH_8 14 (by decide) lk_X5_call_71 rfl rfl dX5_call_72 ?_
          refine z_top (b := σ 14 0) (by rw [zup_t (t := 15) (t' := 14) (by decide), zup_t (t := 0) (t' := 14) (by decide)]) ?_
          refine lv_iload_n hx hb dX5_call_75 rfl (lv_at hl 2 rfl) ?_
          refine m_ast hx hb hK hRH_8 hM hSH_8 16 rfl (by show 0 ≤ (σ 14 0) ∧ (σ 14 0) < ((40 : Nat) : Int); omega) dX5_call_76 (fun H_9 locsH_9 hRH_9 hzH_9 hSH_9 => ?_)
          refine lv_aload_n hx hb dX5_call_77 rfl (lv_at hl 0 rfl) ?_
          refine m_get hx hb hts in_X5_call hown hK hRH_9 18 (by decide) lk_X5_call_50 rfl rfl dX5_call_78 ?_
          refine lv_aload_n hx hb dX5_call_81 rfl (lv_at hl 0 rfl) ?_
          refine m_get hx hb hts in_X5_call hown hK hRH_9 14 (by decide) lk_X5_call_71 rfl rfl dX5_call_82 ?_
          refine z_top (b := σ 14 0) (by rw [zup_t (t := 16) (t' := 14) (by decide), zup_t (t := 15) (t' := 14) (by decide), zup_t (t := 0) (t' := 14) (by decide)]) ?_
          refine z_iconst hx hb dX5_call_85 ?_
          refine m_ast hx hb hK hRH_9 hM hSH_9 18 rfl (by show 0 ≤ (σ 14 0) ∧ (σ 14 0) < ((40 : Nat) : Int); omega) dX5_call_86 (fun H_10 locsH_10 hRH_10 hzH_10 hSH_10 => ?_)
          refine lv_aload_n hx hb dX5_call_87 rfl (lv_at hl 0 rfl) ?_
          refine m_get hx hb hts in_X5_call hown hK hRH_10 20 (by decide) lk_X5_call_56 rfl rfl dX5_call_88 ?_
          refine lv_aload_n hx hb dX5_call_91 rfl (lv_at hl 0 rfl) ?_
          refine m_get hx hb hts in_X5_call hown hK hRH_10 14 (by decide) lk_X5_call_71 rfl rfl dX5_call_92 ?_
          refine z_top (b := σ 14 0) (by rw [zup_t (t := 18) (t' := 14) (by decide), zup_t (t := 16) (t' := 14) (by decide), zup_t (t := 15) (t' := 14) (by decide), zup_t (t := 0) (t' := 14) (by decide)]) ?_
          refine z_iconst hx hb dX5_call_95 ?_
          refine m_ast hx hb hK hRH_10 hM hSH_10 20 rfl (by show 0 ≤ (σ 14 0) ∧ (σ 14 0) < ((40 : Nat) : Int); omega) dX5_call_96 (fun H_11 locsH_11 hRH_11 hzH_11 hSH_11 => ?_)
          refine lv_aload_n hx hb dX5_call_97 rfl (lv_at hl 0 rfl) ?_
          refine m_get hx hb hts in_X5_call hown hK hRH_11 19 (by decide) lk_X5_call_53 rfl rfl dX5_call_98 ?_
          refine lv_aload_n hx hb dX5_call_101 rfl (lv_at hl 0 rfl) ?_
          refine m_get hx hb hts in_X5_call hown hK hRH_11 14 (by decide) lk_X5_call_71 rfl rfl dX5_call_102 ?_
          refine z_top (b := σ 14 0) (by rw [zup_t (t := 20) (t' := 14) (by decide), zup_t (t := 18) (t' := 14) (by decide), zup_t (t := 16) (t' := 14) (by decide), zup_t (t := 15) (t' := 14) (by decide), zup_t (t := 0) (t' := 14) (by decide)]) ?_
          refine z_iconst hx hb dX5_call_105 ?_
          refine m_ast hx hb hK hRH_11 hM hSH_11 19 rfl (by show 0 ≤ (σ 14 0) ∧ (σ 14 0) < ((40 : Nat) : Int); omega) dX5_call_106 (fun H_12 locsH_12 hRH_12 hzH_12 hSH_12 => ?_)
          refine lv_aload_n hx hb dX5_call_107 rfl (lv_at hl 0 rfl) ?_
          refine lv_dup hx hb dX5_call_108 rfl ?_
          refine m_get hx hb hts in_X5_call hown hK hRH_12 14 (by decide) lk_X5_call_71 rfl rfl dX5_call_109 ?_
          refine z_top (b := σ 14 0) (by rw [zup_t (t := 19) (t' := 14) (by decide), zup_t (t := 20) (t' := 14) (by decide), zup_t (t := 18) (t' := 14) (by decide), zup_t (t := 16) (t' := 14) (by decide), zup_t (t := 15) (t' := 14) (by decide), zup_t (t := 0) (t' := 14) (by decide)]) ?_
          refine z_iconst hx hb dX5_call_112 ?_
          refine z_iadd hx hb dX5_call_113 ?_
          refine m_put hx hb hts in_X5_call hown hK hRH_12 hM hSH_12 14 (by decide) rfl lk_X5_call_71 rfl rfl rfl rfl dX5_call_114 (fun H_13 locsH_13 hRH_13 hzH_13 hSH_13 => ?_)
          refine lv_aload_n hx hb dX5_call_117 rfl (lv_at hl 0 rfl) ?_
          refine m_get hx hb hts in_X5_call hown hK hRH_13 14 (by decide) lk_X5_call_71 rfl rfl dX5_call_118 ?_
          refine z_top (b := ((σ 14 0) + 1)) (by rw [zup_s]) ?_
          refine z_iconst hx hb dX5_call_121 ?_
          refine z_isub hx hb dX5_call_122 ?_
          have ht : zth_call σ k w = 0 := by unfold zth_call; (repeat' split) <;> omega
          exact W.iret hx hb hr (z_endM (post := zPost (zth_call σ k w) (zan_call (zup σ 0 0 0)) (zst_call (zup σ 0 0 0) k w) (zup σ 0 0 (zth_call σ k w))) (σ' := (zup (zup (zup (zup (zup (zup (zup σ 0 0 0) 15 (σ 14 0) k) 16 (σ 14 0) w) 18 (σ 14 0) (-1)) 20 (σ 14 0) (-1)) 19 (σ 14 0) 0) 14 0 ((σ 14 0) + 1))) (v := some (.int (zI (((σ 14 0) + 1) - 1)))) (zPost_ok (a := (((σ 14 0) + 1) - 1)) ht (by show _ = σ 14 0; omega) (by rfl)) hRH_13 (hzH_13.trans (hzH_12.trans (hzH_11.trans (hzH_10.trans (hzH_9.trans (hzH_8.trans (hzH_6.trans rfl))))))) hSH_13) hSH_13.2.2 dX5_call_123
        · exact absurd c_7 (by decide)
      · refine z_iconst hx hb dX5_call_40 ?_
        refine lv_goto (tgt := 45) hx hb dX5_call_41 (by decide) ?_
        refine m_put hx hb hts in_X5_call hown hK hR hM va_S.rf 0 (by decide) rfl lk_X5_call_59 rfl rfl rfl rfl dX5_call_45 (fun H_14 locsH_14 hRH_14 hzH_14 hSH_14 => ?_)
        refine lv_aload_n hx hb dX5_call_48 rfl (lv_at hl 0 rfl) ?_
        refine m_get hx hb hts in_X5_call hown hK hRH_14 0 (by decide) lk_X5_call_59 rfl rfl dX5_call_49 ?_
        refine z_top (b := 3) (by rw [zup_s]) ?_
        refine z_if_le (tgt := 57) hx hb dX5_call_52 (by decide) (by omega) (fun c_15 => ?_) (fun c_15 => ?_)
        · exact absurd c_15 (by decide)
        · refine z_iconst hx hb dX5_call_55 ?_
          have ht : zth_call σ k w = 3 := by unfold zth_call; (repeat' split) <;> omega
          exact W.iret hx hb hr (z_endM (post := zPost (zth_call σ k w) (zan_call (zup σ 0 0 0)) (zst_call (zup σ 0 0 0) k w) (zup σ 0 0 (zth_call σ k w))) (σ' := (zup σ 0 0 3)) (v := some (.int (zI 0))) (zPost_no (a := 0) ht (by decide)) hRH_14 (hzH_14.trans rfl) hSH_14) hSH_14.2.2 dX5_call_56
    · refine z_iconst hx hb dX5_call_27 ?_
      refine lv_goto (tgt := 45) hx hb dX5_call_28 (by decide) ?_
      refine m_put hx hb hts in_X5_call hown hK hR hM va_S.rf 0 (by decide) rfl lk_X5_call_59 rfl rfl rfl rfl dX5_call_45 (fun H_16 locsH_16 hRH_16 hzH_16 hSH_16 => ?_)
      refine lv_aload_n hx hb dX5_call_48 rfl (lv_at hl 0 rfl) ?_
      refine m_get hx hb hts in_X5_call hown hK hRH_16 0 (by decide) lk_X5_call_59 rfl rfl dX5_call_49 ?_
      refine z_top (b := 2) (by rw [zup_s]) ?_
      refine z_if_le (tgt := 57) hx hb dX5_call_52 (by decide) (by omega) (fun c_17 => ?_) (fun c_17 => ?_)
      · exact absurd c_17 (by decide)
      · refine z_iconst hx hb dX5_call_55 ?_
        have ht : zth_call σ k w = 2 := by unfold zth_call; (repeat' split) <;> omega
        exact W.iret hx hb hr (z_endM (post := zPost (zth_call σ k w) (zan_call (zup σ 0 0 0)) (zst_call (zup σ 0 0 0) k w) (zup σ 0 0 (zth_call σ k w))) (σ' := (zup σ 0 0 2)) (v := some (.int (zI 0))) (zPost_no (a := 0) ht (by decide)) hRH_16 (hzH_16.trans rfl) hSH_16) hSH_16.2.2 dX5_call_56
  · refine z_iconst hx hb dX5_call_9 ?_
    refine lv_goto (tgt := 45) hx hb dX5_call_10 (by decide) ?_
    refine m_put hx hb hts in_X5_call hown hK hR hM va_S.rf 0 (by decide) rfl lk_X5_call_59 rfl rfl rfl rfl dX5_call_45 (fun H_18 locsH_18 hRH_18 hzH_18 hSH_18 => ?_)
    refine lv_aload_n hx hb dX5_call_48 rfl (lv_at hl 0 rfl) ?_
    refine m_get hx hb hts in_X5_call hown hK hRH_18 0 (by decide) lk_X5_call_59 rfl rfl dX5_call_49 ?_
    refine z_top (b := 1) (by rw [zup_s]) ?_
    refine z_if_le (tgt := 57) hx hb dX5_call_52 (by decide) (by omega) (fun c_19 => ?_) (fun c_19 => ?_)
    · exact absurd c_19 (by decide)
    · refine z_iconst hx hb dX5_call_55 ?_
      have ht : zth_call σ k w = 1 := by unfold zth_call; (repeat' split) <;> omega
      exact W.iret hx hb hr (z_endM (post := zPost (zth_call σ k w) (zan_call (zup σ 0 0 0)) (zst_call (zup σ 0 0 0) k w) (zup σ 0 0 (zth_call σ k w))) (σ' := (zup σ 0 0 1)) (v := some (.int (zI 0))) (zPost_no (a := 0) ht (by decide)) hRH_18 (hzH_18.trans rfl) hSH_18) hSH_18.2.2 dX5_call_56

theorem lk_X5_looks_44 : Cond.fieldLink RX5 44 "HarbourPilotlineModel" "wish" "[I" ∈ wsX5_looks := by decide +kernel
theorem lk_X5_looks_92 : Cond.fieldLink RX5 92 "HarbourPilotlineModel" "now" "I" ∈ wsX5_looks := by decide +kernel
theorem lk_X5_looks_56 : Cond.fieldLink RX5 56 "HarbourPilotlineModel" "slot" "[I" ∈ wsX5_looks := by decide +kernel
theorem lk_X5_looks_53 : Cond.fieldLink RX5 53 "HarbourPilotlineModel" "state" "[I" ∈ wsX5_looks := by decide +kernel
theorem lk_X5_looks_41 : Cond.fieldLink RX5 41 "HarbourPilotlineModel" "ship" "[I" ∈ wsX5_looks := by decide +kernel
theorem in_X5_looks : ∀ w ∈ wsX50, w ∈ wsX5_looks := by decide +kernel
set_option maxRecDepth 100000 in
set_option maxHeartbeats 4000000 in
theorem c_X5_looks (l : Launch) (D : va_G) (cI cO cL : ClassId) (b : Nat) (ma : Nat → Nat) (hM : MA b ma) (σ : zT) (H0 : Heap) (hR : RM D cI b ma σ H0) (k : Int) (hI : zInv σ) (hk : 0 ≤ k ∧ k < σ 14 0) : zWM l yX5_looks wsX5_looks ({ frames := 3, cells := 0, slots := 0, locals := 70 }) D cI cO cL b ma [.ref b, .int (zI k)] H0 ((fun rv σ' => rv = none ∧ σ' = zLook σ k)) := by
  refine Met.ofW (cc := cX5_looks) (maxL := 6) (ret := none) (by decide) rfl ?_
  intro p e s m args below meth c s₁ B hml hv
  obtain ⟨rfl, hH, hK⟩ := hv
  subst hH
  have hx := B.exec
  have hb := B.bytes
  have hr := B.returns
  have hts := atoms_spec (ws := wsX5_looks) B.pre
  have hown : s.vm.findClass RX5 = some m.cls := findClass_of_methodNamed B.named
  have hlocks := B.notSynchronized
  have hl := lv_entry ([.ref b, .int (zI k)]) (n := 6) (Nat.le_of_ble_eq_true rfl)
  rw [lg_entry_eq]
  generalize (lg_sl ([.ref b, .int (zI k)]) ++ List.replicate (6 - (lg_sl ([.ref b, .int (zI k)])).length) Slot.unset).toArray = ls at hl ⊢
  have hl : lv_has ls 6 [(0, .ref b), (1, .int (zI k))] := hl
  have f0 := hI.r
  have fk := hI.c hk
  have gk := hI.s (i := σ 15 k) (by omega)
  refine lv_aload_n hx hb dX5_looks_0 rfl (lv_at hl 0 rfl) ?_
  refine m_get hx hb hts in_X5_looks hown hK hR 16 (by decide) lk_X5_looks_44 rfl rfl dX5_looks_1 ?_
  refine lv_iload_n hx hb dX5_looks_4 rfl (lv_at hl 1 rfl) ?_
  refine m_ald hx hb hK hR 16 rfl (by show 0 ≤ k ∧ k < ((40 : Nat) : Int); omega) dX5_looks_5 ?_
  refine lv_aload_n hx hb dX5_looks_6 rfl (lv_at hl 0 rfl) ?_
  refine m_get hx hb hts in_X5_looks hown hK hR 1 (by decide) lk_X5_looks_92 rfl rfl dX5_looks_7 ?_
  refine z_icmp_le (tgt := 22) hx hb dX5_looks_10 (by decide) (by omega) (fun c_1 => ?_) (fun c_1 => ?_)
  · refine lv_aload_n hx hb dX5_looks_22 rfl (lv_at hl 0 rfl) ?_
    refine m_get hx hb hts in_X5_looks hown hK hR 1 (by decide) lk_X5_looks_92 rfl rfl dX5_looks_23 ?_
    refine lv_istore_n (lv' := [(2, .int (zI (σ 1 0))), (0, .ref b), (1, .int (zI k))]) hx hb dX5_looks_26 rfl hl (by decide) rfl (fun ls hl => ?_)
    refine z_iconst hx hb dX5_looks_27 ?_
    refine lv_istore_n (lv' := [(3, .int (zI (-1))), (2, .int (zI (σ 1 0))), (0, .ref b), (1, .int (zI k))]) hx hb dX5_looks_28 rfl hl (by decide) rfl (fun ls hl => ?_)
    refine lv_iload_n hx hb dX5_looks_29 rfl (lv_at hl 1 rfl) ?_
    refine lv_istore (lv' := [(4, .int (zI (σ 1 0))), (3, .int (zI (-1))), (2, .int (zI (σ 1 0))), (0, .ref b), (1, .int (zI k))]) hx hb dX5_looks_30 hl (by decide) rfl (fun ls hl => ?_)
    refine z_cap (fun WW wi wo => ?_)
    have hL : ∀ (n : Nat) (f i : Int) (ls : Array Slot), (f = -1 ∧ zFind σ k = zSrch (zOk σ k) ((σ 1 0) + 1441 - i).toNat i) ∨ (0 ≤ f ∧ zFind σ k = f) → (σ 1 0) ≤ i ∧ i ≤ (σ 1 0) + 1441 → -1 ≤ f ∧ f ≤ i → ((σ 1 0) + 1441 - i).toNat < n → lv_has ls 6 [(2, .int (zI (σ 1 0))), (0, .ref b), (1, .int (zI k)), (3, .int (zI f)), (4, .int (zI i))] → WW s.heap [] 0 0 (F0 m 32 ls []) := by
      intro n
      induction n with
      | zero => intro f i ls hf hi hg hm; exact absurd hm (Nat.not_lt_zero _)
      | succ n ih =>
        intro f i ls hf hi hg hm hl
        refine wi _ _ _ _ _ ?_
        refine lv_iload hx hb dX5_looks_32 (lv_at hl 4 rfl) ?_
        refine lv_iload_n hx hb dX5_looks_34 rfl (lv_at hl 0 rfl) ?_
        refine z_sipush hx hb dX5_looks_35 (by decide +kernel) ?_
        refine z_iadd hx hb dX5_looks_38 ?_
        refine z_icmp_gt (tgt := 117) hx hb dX5_looks_39 (by decide) (by omega) (fun c_2 => ?_) (fun c_2 => ?_)
        · have hF : zFind σ k = f := by rcases hf with hf | hf <;> first | omega | (rw [hf.2, zSrch_0 (by omega)]; omega)
          refine lv_aload_n hx hb dX5_looks_117 rfl (lv_at hl 1 rfl) ?_
          refine m_get hx hb hts in_X5_looks hown hK hR 20 (by decide) lk_X5_looks_56 rfl rfl dX5_looks_118 ?_
          refine lv_iload_n hx hb dX5_looks_121 rfl (lv_at hl 2 rfl) ?_
          refine lv_iload_n hx hb dX5_looks_122 rfl (lv_at hl 3 rfl) ?_
          refine m_ast hx hb hK hR hM va_S.rf 20 rfl (by show 0 ≤ k ∧ k < ((40 : Nat) : Int); omega) dX5_looks_123 (fun H_3 locsH_3 hRH_3 hzH_3 hSH_3 => ?_)
          refine lv_aload_n hx hb dX5_looks_124 rfl (lv_at hl 1 rfl) ?_
          refine m_get hx hb hts in_X5_looks hown hK hRH_3 19 (by decide) lk_X5_looks_53 rfl rfl dX5_looks_125 ?_
          refine lv_iload_n hx hb dX5_looks_128 rfl (lv_at hl 2 rfl) ?_
          refine lv_iload_n hx hb dX5_looks_129 rfl (lv_at hl 3 rfl) ?_
          refine z_iconst hx hb dX5_looks_130 ?_
          refine z_icmp_ne (tgt := 138) hx hb dX5_looks_131 (by decide) (by omega) (fun c_4 => ?_) (fun c_4 => ?_)
          · refine lv_iload_n hx hb dX5_looks_138 rfl (lv_at hl 3 rfl) ?_
            refine lv_aload_n hx hb dX5_looks_139 rfl (lv_at hl 1 rfl) ?_
            refine m_get hx hb hts in_X5_looks hown hK hRH_3 1 (by decide) lk_X5_looks_92 rfl rfl dX5_looks_140 ?_
            refine z_top (b := σ 1 0) (by rw [zup_t (t := 20) (t' := 1) (by decide)]) ?_
            refine z_icmp_ne (tgt := 150) hx hb dX5_looks_143 (by decide) (by omega) (fun c_5 => ?_) (fun c_5 => ?_)
            · refine z_iconst hx hb dX5_looks_150 ?_
              refine m_ast hx hb hK hRH_3 hM hSH_3 19 rfl (by show 0 ≤ k ∧ k < ((40 : Nat) : Int); omega) dX5_looks_151 (fun H_6 locsH_6 hRH_6 hzH_6 hSH_6 => ?_)
              exact W.vret hx hb hr  (z_endM (post := (fun rv σ' => rv = none ∧ σ' = zLook σ k)) (σ' := (zup (zup σ 20 k f) 19 k 2)) (v := none) ⟨rfl, by unfold zLook; rw [hF]; first | rw [if_pos (by omega)] | rw [if_neg (by omega), if_pos (by omega)] | rw [if_neg (by omega), if_neg (by omega)]⟩ hRH_6 (hzH_6.trans (hzH_3.trans rfl)) hSH_6) hSH_6.2.2 dX5_looks_152
            · refine z_iconst hx hb dX5_looks_146 ?_
              refine lv_goto (tgt := 151) hx hb dX5_looks_147 (by decide) ?_
              refine m_ast hx hb hK hRH_3 hM hSH_3 19 rfl (by show 0 ≤ k ∧ k < ((40 : Nat) : Int); omega) dX5_looks_151 (fun H_7 locsH_7 hRH_7 hzH_7 hSH_7 => ?_)
              exact W.vret hx hb hr  (z_endM (post := (fun rv σ' => rv = none ∧ σ' = zLook σ k)) (σ' := (zup (zup σ 20 k f) 19 k 3)) (v := none) ⟨rfl, by unfold zLook; rw [hF]; first | rw [if_pos (by omega)] | rw [if_neg (by omega), if_pos (by omega)] | rw [if_neg (by omega), if_neg (by omega)]⟩ hRH_7 (hzH_7.trans (hzH_3.trans rfl)) hSH_7) hSH_7.2.2 dX5_looks_152
          · refine z_iconst hx hb dX5_looks_134 ?_
            refine lv_goto (tgt := 151) hx hb dX5_looks_135 (by decide) ?_
            refine m_ast hx hb hK hRH_3 hM hSH_3 19 rfl (by show 0 ≤ k ∧ k < ((40 : Nat) : Int); omega) dX5_looks_151 (fun H_8 locsH_8 hRH_8 hzH_8 hSH_8 => ?_)
            exact W.vret hx hb hr  (z_endM (post := (fun rv σ' => rv = none ∧ σ' = zLook σ k)) (σ' := (zup (zup σ 20 k f) 19 k 1)) (v := none) ⟨rfl, by unfold zLook; rw [hF]; first | rw [if_pos (by omega)] | rw [if_neg (by omega), if_pos (by omega)] | rw [if_neg (by omega), if_neg (by omega)]⟩ hRH_8 (hzH_8.trans (hzH_3.trans rfl)) hSH_8) hSH_8.2.2 dX5_looks_152
        · refine lv_iload_n hx hb dX5_looks_42 rfl (lv_at hl 3 rfl) ?_
          refine z_iconst hx hb dX5_looks_43 ?_
          refine z_icmp_ne (tgt := 117) hx hb dX5_looks_44 (by decide) (by omega) (fun c_9 => ?_) (fun c_9 => ?_)
          · have hF : zFind σ k = f := by rcases hf with hf | hf <;> first | omega | (rw [hf.2, zSrch_0 (by omega)]; omega)
            refine lv_aload_n hx hb dX5_looks_117 rfl (lv_at hl 1 rfl) ?_
            refine m_get hx hb hts in_X5_looks hown hK hR 20 (by decide) lk_X5_looks_56 rfl rfl dX5_looks_118 ?_
            refine lv_iload_n hx hb dX5_looks_121 rfl (lv_at hl 2 rfl) ?_
            refine lv_iload_n hx hb dX5_looks_122 rfl (lv_at hl 3 rfl) ?_
            refine m_ast hx hb hK hR hM va_S.rf 20 rfl (by show 0 ≤ k ∧ k < ((40 : Nat) : Int); omega) dX5_looks_123 (fun H_10 locsH_10 hRH_10 hzH_10 hSH_10 => ?_)
            refine lv_aload_n hx hb dX5_looks_124 rfl (lv_at hl 1 rfl) ?_
            refine m_get hx hb hts in_X5_looks hown hK hRH_10 19 (by decide) lk_X5_looks_53 rfl rfl dX5_looks_125 ?_
            refine lv_iload_n hx hb dX5_looks_128 rfl (lv_at hl 2 rfl) ?_
            refine lv_iload_n hx hb dX5_looks_129 rfl (lv_at hl 3 rfl) ?_
            refine z_iconst hx hb dX5_looks_130 ?_
            refine z_icmp_ne (tgt := 138) hx hb dX5_looks_131 (by decide) (by omega) (fun c_11 => ?_) (fun c_11 => ?_)
            · refine lv_iload_n hx hb dX5_looks_138 rfl (lv_at hl 3 rfl) ?_
              refine lv_aload_n hx hb dX5_looks_139 rfl (lv_at hl 1 rfl) ?_
              refine m_get hx hb hts in_X5_looks hown hK hRH_10 1 (by decide) lk_X5_looks_92 rfl rfl dX5_looks_140 ?_
              refine z_top (b := σ 1 0) (by rw [zup_t (t := 20) (t' := 1) (by decide)]) ?_
              refine z_icmp_ne (tgt := 150) hx hb dX5_looks_143 (by decide) (by omega) (fun c_12 => ?_) (fun c_12 => ?_)
              · refine z_iconst hx hb dX5_looks_150 ?_
                refine m_ast hx hb hK hRH_10 hM hSH_10 19 rfl (by show 0 ≤ k ∧ k < ((40 : Nat) : Int); omega) dX5_looks_151 (fun H_13 locsH_13 hRH_13 hzH_13 hSH_13 => ?_)
                exact W.vret hx hb hr  (z_endM (post := (fun rv σ' => rv = none ∧ σ' = zLook σ k)) (σ' := (zup (zup σ 20 k f) 19 k 2)) (v := none) ⟨rfl, by unfold zLook; rw [hF]; first | rw [if_pos (by omega)] | rw [if_neg (by omega), if_pos (by omega)] | rw [if_neg (by omega), if_neg (by omega)]⟩ hRH_13 (hzH_13.trans (hzH_10.trans rfl)) hSH_13) hSH_13.2.2 dX5_looks_152
              · refine z_iconst hx hb dX5_looks_146 ?_
                refine lv_goto (tgt := 151) hx hb dX5_looks_147 (by decide) ?_
                refine m_ast hx hb hK hRH_10 hM hSH_10 19 rfl (by show 0 ≤ k ∧ k < ((40 : Nat) : Int); omega) dX5_looks_151 (fun H_14 locsH_14 hRH_14 hzH_14 hSH_14 => ?_)
                exact W.vret hx hb hr  (z_endM (post := (fun rv σ' => rv = none ∧ σ' = zLook σ k)) (σ' := (zup (zup σ 20 k f) 19 k 3)) (v := none) ⟨rfl, by unfold zLook; rw [hF]; first | rw [if_pos (by omega)] | rw [if_neg (by omega), if_pos (by omega)] | rw [if_neg (by omega), if_neg (by omega)]⟩ hRH_14 (hzH_14.trans (hzH_10.trans rfl)) hSH_14) hSH_14.2.2 dX5_looks_152
            · refine z_iconst hx hb dX5_looks_134 ?_
              refine lv_goto (tgt := 151) hx hb dX5_looks_135 (by decide) ?_
              refine m_ast hx hb hK hRH_10 hM hSH_10 19 rfl (by show 0 ≤ k ∧ k < ((40 : Nat) : Int); omega) dX5_looks_151 (fun H_15 locsH_15 hRH_15 hzH_15 hSH_15 => ?_)
              exact W.vret hx hb hr  (z_endM (post := (fun rv σ' => rv = none ∧ σ' = zLook σ k)) (σ' := (zup (zup σ 20 k f) 19 k 1)) (v := none) ⟨rfl, by unfold zLook; rw [hF]; first | rw [if_pos (by omega)] | rw [if_neg (by omega), if_pos (by omega)] | rw [if_neg (by omega), if_neg (by omega)]⟩ hRH_15 (hzH_15.trans (hzH_10.trans rfl)) hSH_15) hSH_15.2.2 dX5_looks_152
          · refine lv_aload_n hx hb dX5_looks_47 rfl (lv_at hl 1 rfl) ?_
            refine lv_aload_n hx hb dX5_looks_48 rfl (lv_at hl 1 rfl) ?_
            refine m_get hx hb hts in_X5_looks hown hK hR 15 (by decide) lk_X5_looks_41 rfl rfl dX5_looks_49 ?_
            refine lv_iload_n hx hb dX5_looks_52 rfl (lv_at hl 2 rfl) ?_
            refine m_ald hx hb hK hR 15 rfl (by show 0 ≤ k ∧ k < ((40 : Nat) : Int); omega) dX5_looks_53 ?_
            refine lv_iload hx hb dX5_looks_54 (lv_at hl 4 rfl) ?_
            refine z_cv (As := [.int (zI (σ 15 k)), .int (zI i)]) (rest := []) ⟨hx, hb, hml, hown, hts⟩ (c_X5_tideDoes l D cI cO cL b ma σ s.heap hR (σ 15 k) i hI (by omega) (by omega)) (cwV 2 hts gX5_looks_X5_tideDoes rfl rfl rfl (by decide +kernel) ⟨Nat.le_of_ble_eq_true rfl, Nat.le_of_ble_eq_true rfl⟩) (zKK_mv D cI cO cL) (fun U _ hv => va_K.moved hv hK) (m_recv hK hR) rfl hl.1 rfl (Nat.le_of_ble_eq_true rfl) dX5_looks_56 ⟨Nat.zero_le _, Nat.zero_le _⟩ (fun r_16 hr_16 => ?_)
            rw [hr_16]
            refine z_ifb_eq (tgt := 96) hx hb dX5_looks_59 (by decide) (fun c_17 => ?_) (fun c_17 => ?_)
            · refine z_iconst hx hb dX5_looks_96 ?_
              refine lv_istore (lv' := [(5, .int (zI 0)), (2, .int (zI (σ 1 0))), (0, .ref b), (1, .int (zI k)), (3, .int (zI f)), (4, .int (zI i))]) hx hb dX5_looks_97 hl (by decide) rfl (fun ls hl => ?_)
              refine lv_iload hx hb dX5_looks_99 (lv_at hl 0 rfl) ?_
              refine z_if_eq (tgt := 109) hx hb dX5_looks_101 (by decide) (by omega) (fun c_18 => ?_) (fun c_18 => ?_)
              · refine z_iconst hx hb dX5_looks_109 ?_
                refine lv_istore_n (lv' := [(3, .int (zI (-1))), (5, .int (zI 0)), (2, .int (zI (σ 1 0))), (0, .ref b), (1, .int (zI k)), (4, .int (zI i))]) hx hb dX5_looks_110 rfl hl (by decide) rfl (fun ls hl => ?_)
                refine z_iinc (lv' := [(4, .int (zI (i + 1))), (3, .int (zI (-1))), (5, .int (zI 0)), (2, .int (zI (σ 1 0))), (0, .ref b), (1, .int (zI k))]) hx hb dX5_looks_111 hl (k := 5) rfl (by decide) rfl (fun ls hl => ?_)
                refine lv_goto (tgt := 32) hx hb dX5_looks_114 (by decide) ?_
                exact wo _ _ _ _ _ (ih (-1) (i + 1) ls (by refine Or.inl ⟨rfl, ?_⟩; rcases hf with hf | hf <;> first | omega | (rw [hf.2, zSrch_fi (by omega) (fun q => by first | exact absurd q.1 (by assumption) | exact absurd q.2.1 (by assumption) | exact absurd q.2.2.1 (by assumption) | exact absurd q.2.2.2 (by assumption)), show (σ 1 0) + 1441 - (i + 1) = (σ 1 0) + 1441 - i - 1 by omega])) (by omega) (by omega) (by omega) (lv_sub hl [3, 4, 5, 1, 0] rfl))
              · exact absurd c_18 (by decide)
            · refine lv_aload_n hx hb dX5_looks_62 rfl (lv_at hl 1 rfl) ?_
              refine lv_iload_n hx hb dX5_looks_63 rfl (lv_at hl 2 rfl) ?_
              refine lv_iload hx hb dX5_looks_64 (lv_at hl 4 rfl) ?_
              refine z_cv (As := [.int (zI k), .int (zI i)]) (rest := []) ⟨hx, hb, hml, hown, hts⟩ (c_X5_channelDoes l D cI cO cL b ma σ s.heap hR k i hI (by omega) (by omega)) (cwV 2 hts gX5_looks_X5_channelDoes rfl rfl rfl (by decide +kernel) ⟨Nat.le_of_ble_eq_true rfl, Nat.le_of_ble_eq_true rfl⟩) (zKK_mv D cI cO cL) (fun U _ hv => va_K.moved hv hK) (m_recv hK hR) rfl hl.1 rfl (Nat.le_of_ble_eq_true rfl) dX5_looks_66 ⟨Nat.zero_le _, Nat.zero_le _⟩ (fun r_19 hr_19 => ?_)
              rw [hr_19]
              refine z_ifb_eq (tgt := 96) hx hb dX5_looks_69 (by decide) (fun c_20 => ?_) (fun c_20 => ?_)
              · refine z_iconst hx hb dX5_looks_96 ?_
                refine lv_istore (lv' := [(5, .int (zI 0)), (2, .int (zI (σ 1 0))), (0, .ref b), (1, .int (zI k)), (3, .int (zI f)), (4, .int (zI i))]) hx hb dX5_looks_97 hl (by decide) rfl (fun ls hl => ?_)
                refine lv_iload hx hb dX5_looks_99 (lv_at hl 0 rfl) ?_
                refine z_if_eq (tgt := 109) hx hb dX5_looks_101 (by decide) (by omega) (fun c_21 => ?_) (fun c_21 => ?_)
                · refine z_iconst hx hb dX5_looks_109 ?_
                  refine lv_istore_n (lv' := [(3, .int (zI (-1))), (5, .int (zI 0)), (2, .int (zI (σ 1 0))), (0, .ref b), (1, .int (zI k)), (4, .int (zI i))]) hx hb dX5_looks_110 rfl hl (by decide) rfl (fun ls hl => ?_)
                  refine z_iinc (lv' := [(4, .int (zI (i + 1))), (3, .int (zI (-1))), (5, .int (zI 0)), (2, .int (zI (σ 1 0))), (0, .ref b), (1, .int (zI k))]) hx hb dX5_looks_111 hl (k := 5) rfl (by decide) rfl (fun ls hl => ?_)
                  refine lv_goto (tgt := 32) hx hb dX5_looks_114 (by decide) ?_
                  exact wo _ _ _ _ _ (ih (-1) (i + 1) ls (by refine Or.inl ⟨rfl, ?_⟩; rcases hf with hf | hf <;> first | omega | (rw [hf.2, zSrch_fi (by omega) (fun q => by first | exact absurd q.1 (by assumption) | exact absurd q.2.1 (by assumption) | exact absurd q.2.2.1 (by assumption) | exact absurd q.2.2.2 (by assumption)), show (σ 1 0) + 1441 - (i + 1) = (σ 1 0) + 1441 - i - 1 by omega])) (by omega) (by omega) (by omega) (lv_sub hl [3, 4, 5, 1, 0] rfl))
                · exact absurd c_21 (by decide)
              · refine lv_aload_n hx hb dX5_looks_72 rfl (lv_at hl 1 rfl) ?_
                refine lv_iload_n hx hb dX5_looks_73 rfl (lv_at hl 2 rfl) ?_
                refine lv_iload hx hb dX5_looks_74 (lv_at hl 4 rfl) ?_
                refine z_cv (As := [.int (zI k), .int (zI i)]) (rest := []) ⟨hx, hb, hml, hown, hts⟩ (c_X5_pilotDoes l D cI cO cL b ma σ s.heap hR k i hI (by omega) (by omega)) (cwV 2 hts gX5_looks_X5_pilotDoes rfl rfl rfl (by decide +kernel) ⟨Nat.le_of_ble_eq_true rfl, Nat.le_of_ble_eq_true rfl⟩) (zKK_mv D cI cO cL) (fun U _ hv => va_K.moved hv hK) (m_recv hK hR) rfl hl.1 rfl (Nat.le_of_ble_eq_true rfl) dX5_looks_76 ⟨Nat.zero_le _, Nat.zero_le _⟩ (fun r_22 hr_22 => ?_)
                rw [hr_22]
                refine z_ifb_eq (tgt := 96) hx hb dX5_looks_79 (by decide) (fun c_23 => ?_) (fun c_23 => ?_)
                · refine z_iconst hx hb dX5_looks_96 ?_
                  refine lv_istore (lv' := [(5, .int (zI 0)), (2, .int (zI (σ 1 0))), (0, .ref b), (1, .int (zI k)), (3, .int (zI f)), (4, .int (zI i))]) hx hb dX5_looks_97 hl (by decide) rfl (fun ls hl => ?_)
                  refine lv_iload hx hb dX5_looks_99 (lv_at hl 0 rfl) ?_
                  refine z_if_eq (tgt := 109) hx hb dX5_looks_101 (by decide) (by omega) (fun c_24 => ?_) (fun c_24 => ?_)
                  · refine z_iconst hx hb dX5_looks_109 ?_
                    refine lv_istore_n (lv' := [(3, .int (zI (-1))), (5, .int (zI 0)), (2, .int (zI (σ 1 0))), (0, .ref b), (1, .int (zI k)), (4, .int (zI i))]) hx hb dX5_looks_110 rfl hl (by decide) rfl (fun ls hl => ?_)
                    refine z_iinc (lv' := [(4, .int (zI (i + 1))), (3, .int (zI (-1))), (5, .int (zI 0)), (2, .int (zI (σ 1 0))), (0, .ref b), (1, .int (zI k))]) hx hb dX5_looks_111 hl (k := 5) rfl (by decide) rfl (fun ls hl => ?_)
                    refine lv_goto (tgt := 32) hx hb dX5_looks_114 (by decide) ?_
                    exact wo _ _ _ _ _ (ih (-1) (i + 1) ls (by refine Or.inl ⟨rfl, ?_⟩; rcases hf with hf | hf <;> first | omega | (rw [hf.2, zSrch_fi (by omega) (fun q => by first | exact absurd q.1 (by assumption) | exact absurd q.2.1 (by assumption) | exact absurd q.2.2.1 (by assumption) | exact absurd q.2.2.2 (by assumption)), show (σ 1 0) + 1441 - (i + 1) = (σ 1 0) + 1441 - i - 1 by omega])) (by omega) (by omega) (by omega) (lv_sub hl [3, 4, 5, 1, 0] rfl))
                  · exact absurd c_24 (by decide)
                · refine lv_aload_n hx hb dX5_looks_82 rfl (lv_at hl 1 rfl) ?_
                  refine lv_iload_n hx hb dX5_looks_83 rfl (lv_at hl 2 rfl) ?_
                  refine lv_iload hx hb dX5_looks_84 (lv_at hl 4 rfl) ?_
                  refine z_cv (As := [.int (zI k), .int (zI i)]) (rest := []) ⟨hx, hb, hml, hown, hts⟩ (c_X5_tugsDo l D cI cO cL b ma σ s.heap hR k i hI (by omega) (by omega)) (cwV 2 hts gX5_looks_X5_tugsDo rfl rfl rfl (by decide +kernel) ⟨Nat.le_of_ble_eq_true rfl, Nat.le_of_ble_eq_true rfl⟩) (zKK_mv D cI cO cL) (fun U _ hv => va_K.moved hv hK) (m_recv hK hR) rfl hl.1 rfl (Nat.le_of_ble_eq_true rfl) dX5_looks_86 ⟨Nat.zero_le _, Nat.zero_le _⟩ (fun r_25 hr_25 => ?_)
                  rw [hr_25]
                  refine z_ifb_eq (tgt := 96) hx hb dX5_looks_89 (by decide) (fun c_26 => ?_) (fun c_26 => ?_)
                  · refine z_iconst hx hb dX5_looks_96 ?_
                    refine lv_istore (lv' := [(5, .int (zI 0)), (2, .int (zI (σ 1 0))), (0, .ref b), (1, .int (zI k)), (3, .int (zI f)), (4, .int (zI i))]) hx hb dX5_looks_97 hl (by decide) rfl (fun ls hl => ?_)
                    refine lv_iload hx hb dX5_looks_99 (lv_at hl 0 rfl) ?_
                    refine z_if_eq (tgt := 109) hx hb dX5_looks_101 (by decide) (by omega) (fun c_27 => ?_) (fun c_27 => ?_)
                    · refine z_iconst hx hb dX5_looks_109 ?_
                      refine lv_istore_n (lv' := [(3, .int (zI (-1))), (5, .int (zI 0)), (2, .int (zI (σ 1 0))), (0, .ref b), (1, .int (zI k)), (4, .int (zI i))]) hx hb dX5_looks_110 rfl hl (by decide) rfl (fun ls hl => ?_)
                      refine z_iinc (lv' := [(4, .int (zI (i + 1))), (3, .int (zI (-1))), (5, .int (zI 0)), (2, .int (zI (σ 1 0))), (0, .ref b), (1, .int (zI k))]) hx hb dX5_looks_111 hl (k := 5) rfl (by decide) rfl (fun ls hl => ?_)
                      refine lv_goto (tgt := 32) hx hb dX5_looks_114 (by decide) ?_
                      exact wo _ _ _ _ _ (ih (-1) (i + 1) ls (by refine Or.inl ⟨rfl, ?_⟩; rcases hf with hf | hf <;> first | omega | (rw [hf.2, zSrch_fi (by omega) (fun q => by first | exact absurd q.1 (by assumption) | exact absurd q.2.1 (by assumption) | exact absurd q.2.2.1 (by assumption) | exact absurd q.2.2.2 (by assumption)), show (σ 1 0) + 1441 - (i + 1) = (σ 1 0) + 1441 - i - 1 by omega])) (by omega) (by omega) (by omega) (lv_sub hl [3, 4, 5, 1, 0] rfl))
                    · exact absurd c_27 (by decide)
                  · refine z_iconst hx hb dX5_looks_92 ?_
                    refine lv_goto (tgt := 97) hx hb dX5_looks_93 (by decide) ?_
                    refine lv_istore (lv' := [(5, .int (zI 1)), (2, .int (zI (σ 1 0))), (0, .ref b), (1, .int (zI k)), (3, .int (zI f)), (4, .int (zI i))]) hx hb dX5_looks_97 hl (by decide) rfl (fun ls hl => ?_)
                    refine lv_iload hx hb dX5_looks_99 (lv_at hl 0 rfl) ?_
                    refine z_if_eq (tgt := 109) hx hb dX5_looks_101 (by decide) (by omega) (fun c_28 => ?_) (fun c_28 => ?_)
                    · exact absurd c_28 (by decide)
                    · refine lv_iload hx hb dX5_looks_104 (lv_at hl 5 rfl) ?_
                      refine lv_goto (tgt := 110) hx hb dX5_looks_106 (by decide) ?_
                      refine lv_istore_n (lv' := [(3, .int (zI i)), (5, .int (zI 1)), (2, .int (zI (σ 1 0))), (0, .ref b), (1, .int (zI k)), (4, .int (zI i))]) hx hb dX5_looks_110 rfl hl (by decide) rfl (fun ls hl => ?_)
                      refine z_iinc (lv' := [(4, .int (zI (i + 1))), (3, .int (zI i)), (5, .int (zI 1)), (2, .int (zI (σ 1 0))), (0, .ref b), (1, .int (zI k))]) hx hb dX5_looks_111 hl (k := 5) rfl (by decide) rfl (fun ls hl => ?_)
                      refine lv_goto (tgt := 32) hx hb dX5_looks_114 (by decide) ?_
                      exact wo _ _ _ _ _ (ih i (i + 1) ls (by refine Or.inr ⟨by omega, ?_⟩; rcases hf with hf | hf <;> first | omega | (rw [hf.2]; exact zSrch_ti (by omega) ⟨by assumption, by assumption, by assumption, by assumption⟩)) (by omega) (by omega) (by omega) (lv_sub hl [3, 4, 5, 1, 0] rfl))
    exact wo _ _ _ _ _ (hL _ (-1) (σ 1 0) ls (by refine Or.inl ⟨rfl, ?_⟩; unfold zFind; rw [show (σ 1 0) + 1441 - (σ 1 0) = 1441 by omega]; (first | rw [if_pos (by omega)] | rw [if_neg (by omega)]) <;> rfl) (by omega) (by omega) (Nat.lt_succ_self _) (lv_sub hl [2, 3, 4, 1, 0] rfl))
  · refine lv_aload_n hx hb dX5_looks_13 rfl (lv_at hl 0 rfl) ?_
    refine m_get hx hb hts in_X5_looks hown hK hR 16 (by decide) lk_X5_looks_44 rfl rfl dX5_looks_14 ?_
    refine lv_iload_n hx hb dX5_looks_17 rfl (lv_at hl 1 rfl) ?_
    refine m_ald hx hb hK hR 16 rfl (by show 0 ≤ k ∧ k < ((40 : Nat) : Int); omega) dX5_looks_18 ?_
    refine lv_goto (tgt := 26) hx hb dX5_looks_19 (by decide) ?_
    refine lv_istore_n (lv' := [(2, .int (zI (σ 16 k))), (0, .ref b), (1, .int (zI k))]) hx hb dX5_looks_26 rfl hl (by decide) rfl (fun ls hl => ?_)
    refine z_iconst hx hb dX5_looks_27 ?_
    refine lv_istore_n (lv' := [(3, .int (zI (-1))), (2, .int (zI (σ 16 k))), (0, .ref b), (1, .int (zI k))]) hx hb dX5_looks_28 rfl hl (by decide) rfl (fun ls hl => ?_)
    refine lv_iload_n hx hb dX5_looks_29 rfl (lv_at hl 1 rfl) ?_
    refine lv_istore (lv' := [(4, .int (zI (σ 16 k))), (3, .int (zI (-1))), (2, .int (zI (σ 16 k))), (0, .ref b), (1, .int (zI k))]) hx hb dX5_looks_30 hl (by decide) rfl (fun ls hl => ?_)
    refine z_cap (fun WW wi wo => ?_)
    have hL : ∀ (n : Nat) (f i : Int) (ls : Array Slot), (f = -1 ∧ zFind σ k = zSrch (zOk σ k) ((σ 16 k) + 1441 - i).toNat i) ∨ (0 ≤ f ∧ zFind σ k = f) → (σ 16 k) ≤ i ∧ i ≤ (σ 16 k) + 1441 → -1 ≤ f ∧ f ≤ i → ((σ 16 k) + 1441 - i).toNat < n → lv_has ls 6 [(2, .int (zI (σ 16 k))), (0, .ref b), (1, .int (zI k)), (3, .int (zI f)), (4, .int (zI i))] → WW s.heap [] 0 0 (F0 m 32 ls []) := by
      intro n
      induction n with
      | zero => intro f i ls hf hi hg hm; exact absurd hm (Nat.not_lt_zero _)
      | succ n ih =>
        intro f i ls hf hi hg hm hl
        refine wi _ _ _ _ _ ?_
        refine lv_iload hx hb dX5_looks_32 (lv_at hl 4 rfl) ?_
        refine lv_iload_n hx hb dX5_looks_34 rfl (lv_at hl 0 rfl) ?_
        refine z_sipush hx hb dX5_looks_35 (by decide +kernel) ?_
        refine z_iadd hx hb dX5_looks_38 ?_
        refine z_icmp_gt (tgt := 117) hx hb dX5_looks_39 (by decide) (by omega) (fun c_29 => ?_) (fun c_29 => ?_)
        · have hF : zFind σ k = f := by rcases hf with hf | hf <;> first | omega | (rw [hf.2, zSrch_0 (by omega)]; omega)
          refine lv_aload_n hx hb dX5_looks_117 rfl (lv_at hl 1 rfl) ?_
          refine m_get hx hb hts in_X5_looks hown hK hR 20 (by decide) lk_X5_looks_56 rfl rfl dX5_looks_118 ?_
          refine lv_iload_n hx hb dX5_looks_121 rfl (lv_at hl 2 rfl) ?_
          refine lv_iload_n hx hb dX5_looks_122 rfl (lv_at hl 3 rfl) ?_
          refine m_ast hx hb hK hR hM va_S.rf 20 rfl (by show 0 ≤ k ∧ k < ((40 : Nat) : Int); omega) dX5_looks_123 (fun H_30 locsH_30 hRH_30 hzH_30 hSH_30 => ?_)
          refine lv_aload_n hx hb dX5_looks_124 rfl (lv_at hl 1 rfl) ?_
          refine m_get hx hb hts in_X5_looks hown hK hRH_30 19 (by decide) lk_X5_looks_53 rfl rfl dX5_looks_125 ?_
          refine lv_iload_n hx hb dX5_looks_128 rfl (lv_at hl 2 rfl) ?_
          refine lv_iload_n hx hb dX5_looks_129 rfl (lv_at hl 3 rfl) ?_
          refine z_iconst hx hb dX5_looks_130 ?_
          refine z_icmp_ne (tgt := 138) hx hb dX5_looks_131 (by decide) (by omega) (fun c_31 => ?_) (fun c_31 => ?_)
          · refine lv_iload_n hx hb dX5_looks_138 rfl (lv_at hl 3 rfl) ?_
            refine lv_aload_n hx hb dX5_looks_139 rfl (lv_at hl 1 rfl) ?_
            refine m_get hx hb hts in_X5_looks hown hK hRH_30 1 (by decide) lk_X5_looks_92 rfl rfl dX5_looks_140 ?_
            refine z_top (b := σ 1 0) (by rw [zup_t (t := 20) (t' := 1) (by decide)]) ?_
            refine z_icmp_ne (tgt := 150) hx hb dX5_looks_143 (by decide) (by omega) (fun c_32 => ?_) (fun c_32 => ?_)
            · refine z_iconst hx hb dX5_looks_150 ?_
              refine m_ast hx hb hK hRH_30 hM hSH_30 19 rfl (by show 0 ≤ k ∧ k < ((40 : Nat) : Int); omega) dX5_looks_151 (fun H_33 locsH_33 hRH_33 hzH_33 hSH_33 => ?_)
              exact W.vret hx hb hr  (z_endM (post := (fun rv σ' => rv = none ∧ σ' = zLook σ k)) (σ' := (zup (zup σ 20 k f) 19 k 2)) (v := none) ⟨rfl, by unfold zLook; rw [hF]; first | rw [if_pos (by omega)] | rw [if_neg (by omega), if_pos (by omega)] | rw [if_neg (by omega), if_neg (by omega)]⟩ hRH_33 (hzH_33.trans (hzH_30.trans rfl)) hSH_33) hSH_33.2.2 dX5_looks_152
            · refine z_iconst hx hb dX5_looks_146 ?_
              refine lv_goto (tgt := 151) hx hb dX5_looks_147 (by decide) ?_
              refine m_ast hx hb hK hRH_30 hM hSH_30 19 rfl (by show 0 ≤ k ∧ k < ((40 : Nat) : Int); omega) dX5_looks_151 (fun H_34 locsH_34 hRH_34 hzH_34 hSH_34 => ?_)
              exact W.vret hx hb hr  (z_endM (post := (fun rv σ' => rv = none ∧ σ' = zLook σ k)) (σ' := (zup (zup σ 20 k f) 19 k 3)) (v := none) ⟨rfl, by unfold zLook; rw [hF]; first | rw [if_pos (by omega)] | rw [if_neg (by omega), if_pos (by omega)] | rw [if_neg (by omega), if_neg (by omega)]⟩ hRH_34 (hzH_34.trans (hzH_30.trans rfl)) hSH_34) hSH_34.2.2 dX5_looks_152
          · refine z_iconst hx hb dX5_looks_134 ?_
            refine lv_goto (tgt := 151) hx hb dX5_looks_135 (by decide) ?_
            refine m_ast hx hb hK hRH_30 hM hSH_30 19 rfl (by show 0 ≤ k ∧ k < ((40 : Nat) : Int); omega) dX5_looks_151 (fun H_35 locsH_35 hRH_35 hzH_35 hSH_35 => ?_)
            exact W.vret hx hb hr  (z_endM (post := (fun rv σ' => rv = none ∧ σ' = zLook σ k)) (σ' := (zup (zup σ 20 k f) 19 k 1)) (v := none) ⟨rfl, by unfold zLook; rw [hF]; first | rw [if_pos (by omega)] | rw [if_neg (by omega), if_pos (by omega)] | rw [if_neg (by omega), if_neg (by omega)]⟩ hRH_35 (hzH_35.trans (hzH_30.trans rfl)) hSH_35) hSH_35.2.2 dX5_looks_152
        · refine lv_iload_n hx hb dX5_looks_42 rfl (lv_at hl 3 rfl) ?_
          refine z_iconst hx hb dX5_looks_43 ?_
          refine z_icmp_ne (tgt := 117) hx hb dX5_looks_44 (by decide) (by omega) (fun c_36 => ?_) (fun c_36 => ?_)
          · have hF : zFind σ k = f := by rcases hf with hf | hf <;> first | omega | (rw [hf.2, zSrch_0 (by omega)]; omega)
            refine lv_aload_n hx hb dX5_looks_117 rfl (lv_at hl 1 rfl) ?_
            refine m_get hx hb hts in_X5_looks hown hK hR 20 (by decide) lk_X5_looks_56 rfl rfl dX5_looks_118 ?_
            refine lv_iload_n hx hb dX5_looks_121 rfl (lv_at hl 2 rfl) ?_
            refine lv_iload_n hx hb dX5_looks_122 rfl (lv_at hl 3 rfl) ?_
            refine m_ast hx hb hK hR hM va_S.rf 20 rfl (by show 0 ≤ k ∧ k < ((40 : Nat) : Int); omega) dX5_looks_123 (fun H_37 locsH_37 hRH_37 hzH_37 hSH_37 => ?_)
            refine lv_aload_n hx hb dX5_looks_124 rfl (lv_at hl 1 rfl) ?_
            refine m_get hx hb hts in_X5_looks hown hK hRH_37 19 (by decide) lk_X5_looks_53 rfl rfl dX5_looks_125 ?_
            refine lv_iload_n hx hb dX5_looks_128 rfl (lv_at hl 2 rfl) ?_
            refine lv_iload_n hx hb dX5_looks_129 rfl (lv_at hl 3 rfl) ?_
            refine z_iconst hx hb dX5_looks_130 ?_
            refine z_icmp_ne (tgt := 138) hx hb dX5_looks_131 (by decide) (by omega) (fun c_38 => ?_) (fun c_38 => ?_)
            · refine lv_iload_n hx hb dX5_looks_138 rfl (lv_at hl 3 rfl) ?_
              refine lv_aload_n hx hb dX5_looks_139 rfl (lv_at hl 1 rfl) ?_
              refine m_get hx hb hts in_X5_looks hown hK hRH_37 1 (by decide) lk_X5_looks_92 rfl rfl dX5_looks_140 ?_
              refine z_top (b := σ 1 0) (by rw [zup_t (t := 20) (t' := 1) (by decide)]) ?_
              refine z_icmp_ne (tgt := 150) hx hb dX5_looks_143 (by decide) (by omega) (fun c_39 => ?_) (fun c_39 => ?_)
              · refine z_iconst hx hb dX5_looks_150 ?_
                refine m_ast hx hb hK hRH_37 hM hSH_37 19 rfl (by show 0 ≤ k ∧ k < ((40 : Nat) : Int); omega) dX5_looks_151 (fun H_40 locsH_40 hRH_40 hzH_40 hSH_40 => ?_)
                exact W.vret hx hb hr  (z_endM (post := (fun rv σ' => rv = none ∧ σ' = zLook σ k)) (σ' := (zup (zup σ 20 k f) 19 k 2)) (v := none) ⟨rfl, by unfold zLook; rw [hF]; first | rw [if_pos (by omega)] | rw [if_neg (by omega), if_pos (by omega)] | rw [if_neg (by omega), if_neg (by omega)]⟩ hRH_40 (hzH_40.trans (hzH_37.trans rfl)) hSH_40) hSH_40.2.2 dX5_looks_152
              · refine z_iconst hx hb dX5_looks_146 ?_
                refine lv_goto (tgt := 151) hx hb dX5_looks_147 (by decide) ?_
                refine m_ast hx hb hK hRH_37 hM hSH_37 19 rfl (by show 0 ≤ k ∧ k < ((40 : Nat) : Int); omega) dX5_looks_151 (fun H_41 locsH_41 hRH_41 hzH_41 hSH_41 => ?_)
                exact W.vret hx hb hr  (z_endM (post := (fun rv σ' => rv = none ∧ σ' = zLook σ k)) (σ' := (zup (zup σ 20 k f) 19 k 3)) (v := none) ⟨rfl, by unfold zLook; rw [hF]; first | rw [if_pos (by omega)] | rw [if_neg (by omega), if_pos (by omega)] | rw [if_neg (by omega), if_neg (by omega)]⟩ hRH_41 (hzH_41.trans (hzH_37.trans rfl)) hSH_41) hSH_41.2.2 dX5_looks_152
            · refine z_iconst hx hb dX5_looks_134 ?_
              refine lv_goto (tgt := 151) hx hb dX5_looks_135 (by decide) ?_
              refine m_ast hx hb hK hRH_37 hM hSH_37 19 rfl (by show 0 ≤ k ∧ k < ((40 : Nat) : Int); omega) dX5_looks_151 (fun H_42 locsH_42 hRH_42 hzH_42 hSH_42 => ?_)
              exact W.vret hx hb hr  (z_endM (post := (fun rv σ' => rv = none ∧ σ' = zLook σ k)) (σ' := (zup (zup σ 20 k f) 19 k 1)) (v := none) ⟨rfl, by unfold zLook; rw [hF]; first | rw [if_pos (by omega)] | rw [if_neg (by omega), if_pos (by omega)] | rw [if_neg (by omega), if_neg (by omega)]⟩ hRH_42 (hzH_42.trans (hzH_37.trans rfl)) hSH_42) hSH_42.2.2 dX5_looks_152
          · refine lv_aload_n hx hb dX5_looks_47 rfl (lv_at hl 1 rfl) ?_
            refine lv_aload_n hx hb dX5_looks_48 rfl (lv_at hl 1 rfl) ?_
            refine m_get hx hb hts in_X5_looks hown hK hR 15 (by decide) lk_X5_looks_41 rfl rfl dX5_looks_49 ?_
            refine lv_iload_n hx hb dX5_looks_52 rfl (lv_at hl 2 rfl) ?_
            refine m_ald hx hb hK hR 15 rfl (by show 0 ≤ k ∧ k < ((40 : Nat) : Int); omega) dX5_looks_53 ?_
            refine lv_iload hx hb dX5_looks_54 (lv_at hl 4 rfl) ?_
            refine z_cv (As := [.int (zI (σ 15 k)), .int (zI i)]) (rest := []) ⟨hx, hb, hml, hown, hts⟩ (c_X5_tideDoes l D cI cO cL b ma σ s.heap hR (σ 15 k) i hI (by omega) (by omega)) (cwV 2 hts gX5_looks_X5_tideDoes rfl rfl rfl (by decide +kernel) ⟨Nat.le_of_ble_eq_true rfl, Nat.le_of_ble_eq_true rfl⟩) (zKK_mv D cI cO cL) (fun U _ hv => va_K.moved hv hK) (m_recv hK hR) rfl hl.1 rfl (Nat.le_of_ble_eq_true rfl) dX5_looks_56 ⟨Nat.zero_le _, Nat.zero_le _⟩ (fun r_43 hr_43 => ?_)
            rw [hr_43]
            refine z_ifb_eq (tgt := 96) hx hb dX5_looks_59 (by decide) (fun c_44 => ?_) (fun c_44 => ?_)
            · refine z_iconst hx hb dX5_looks_96 ?_
              refine lv_istore (lv' := [(5, .int (zI 0)), (2, .int (zI (σ 16 k))), (0, .ref b), (1, .int (zI k)), (3, .int (zI f)), (4, .int (zI i))]) hx hb dX5_looks_97 hl (by decide) rfl (fun ls hl => ?_)
              refine lv_iload hx hb dX5_looks_99 (lv_at hl 0 rfl) ?_
              refine z_if_eq (tgt := 109) hx hb dX5_looks_101 (by decide) (by omega) (fun c_45 => ?_) (fun c_45 => ?_)
              · refine z_iconst hx hb dX5_looks_109 ?_
                refine lv_istore_n (lv' := [(3, .int (zI (-1))), (5, .int (zI 0)), (2, .int (zI (σ 16 k))), (0, .ref b), (1, .int (zI k)), (4, .int (zI i))]) hx hb dX5_looks_110 rfl hl (by decide) rfl (fun ls hl => ?_)
                refine z_iinc (lv' := [(4, .int (zI (i + 1))), (3, .int (zI (-1))), (5, .int (zI 0)), (2, .int (zI (σ 16 k))), (0, .ref b), (1, .int (zI k))]) hx hb dX5_looks_111 hl (k := 5) rfl (by decide) rfl (fun ls hl => ?_)
                refine lv_goto (tgt := 32) hx hb dX5_looks_114 (by decide) ?_
                exact wo _ _ _ _ _ (ih (-1) (i + 1) ls (by refine Or.inl ⟨rfl, ?_⟩; rcases hf with hf | hf <;> first | omega | (rw [hf.2, zSrch_fi (by omega) (fun q => by first | exact absurd q.1 (by assumption) | exact absurd q.2.1 (by assumption) | exact absurd q.2.2.1 (by assumption) | exact absurd q.2.2.2 (by assumption)), show (σ 16 k) + 1441 - (i + 1) = (σ 16 k) + 1441 - i - 1 by omega])) (by omega) (by omega) (by omega) (lv_sub hl [3, 4, 5, 1, 0] rfl))
              · exact absurd c_45 (by decide)
            · refine lv_aload_n hx hb dX5_looks_62 rfl (lv_at hl 1 rfl) ?_
              refine lv_iload_n hx hb dX5_looks_63 rfl (lv_at hl 2 rfl) ?_
              refine lv_iload hx hb dX5_looks_64 (lv_at hl 4 rfl) ?_
              refine z_cv (As := [.int (zI k), .int (zI i)]) (rest := []) ⟨hx, hb, hml, hown, hts⟩ (c_X5_channelDoes l D cI cO cL b ma σ s.heap hR k i hI (by omega) (by omega)) (cwV 2 hts gX5_looks_X5_channelDoes rfl rfl rfl (by decide +kernel) ⟨Nat.le_of_ble_eq_true rfl, Nat.le_of_ble_eq_true rfl⟩) (zKK_mv D cI cO cL) (fun U _ hv => va_K.moved hv hK) (m_recv hK hR) rfl hl.1 rfl (Nat.le_of_ble_eq_true rfl) dX5_looks_66 ⟨Nat.zero_le _, Nat.zero_le _⟩ (fun r_46 hr_46 => ?_)
              rw [hr_46]
              refine z_ifb_eq (tgt := 96) hx hb dX5_looks_69 (by decide) (fun c_47 => ?_) (fun c_47 => ?_)
              · refine z_iconst hx hb dX5_looks_96 ?_
                refine lv_istore (lv' := [(5, .int (zI 0)), (2, .int (zI (σ 16 k))), (0, .ref b), (1, .int (zI k)), (3, .int (zI f)), (4, .int (zI i))]) hx hb dX5_looks_97 hl (by decide) rfl (fun ls hl => ?_)
                refine lv_iload hx hb dX5_looks_99 (lv_at hl 0 rfl) ?_
                refine z_if_eq (tgt := 109) hx hb dX5_looks_101 (by decide) (by omega) (fun c_48 => ?_) (fun c_48 => ?_)
                · refine z_iconst hx hb dX5_looks_109 ?_
                  refine lv_istore_n (lv' := [(3, .int (zI (-1))), (5, .int (zI 0)), (2, .int (zI (σ 16 k))), (0, .ref b), (1, .int (zI k)), (4, .int (zI i))]) hx hb dX5_looks_110 rfl hl (by decide) rfl (fun ls hl => ?_)
                  refine z_iinc (lv' := [(4, .int (zI (i + 1))), (3, .int (zI (-1))), (5, .int (zI 0)), (2, .int (zI (σ 16 k))), (0, .ref b), (1, .int (zI k))]) hx hb dX5_looks_111 hl (k := 5) rfl (by decide) rfl (fun ls hl => ?_)
                  refine lv_goto (tgt := 32) hx hb dX5_looks_114 (by decide) ?_
                  exact wo _ _ _ _ _ (ih (-1) (i + 1) ls (by refine Or.inl ⟨rfl, ?_⟩; rcases hf with hf | hf <;> first | omega | (rw [hf.2, zSrch_fi (by omega) (fun q => by first | exact absurd q.1 (by assumption) | exact absurd q.2.1 (by assumption) | exact absurd q.2.2.1 (by assumption) | exact absurd q.2.2.2 (by assumption)), show (σ 16 k) + 1441 - (i + 1) = (σ 16 k) + 1441 - i - 1 by omega])) (by omega) (by omega) (by omega) (lv_sub hl [3, 4, 5, 1, 0] rfl))
                · exact absurd c_48 (by decide)
              · refine lv_aload_n hx hb dX5_looks_72 rfl (lv_at hl 1 rfl) ?_
                refine lv_iload_n hx hb dX5_looks_73 rfl (lv_at hl 2 rfl) ?_
                refine lv_iload hx hb dX5_looks_74 (lv_at hl 4 rfl) ?_
                refine z_cv (As := [.int (zI k), .int (zI i)]) (rest := []) ⟨hx, hb, hml, hown, hts⟩ (c_X5_pilotDoes l D cI cO cL b ma σ s.heap hR k i hI (by omega) (by omega)) (cwV 2 hts gX5_looks_X5_pilotDoes rfl rfl rfl (by decide +kernel) ⟨Nat.le_of_ble_eq_true rfl, Nat.le_of_ble_eq_true rfl⟩) (zKK_mv D cI cO cL) (fun U _ hv => va_K.moved hv hK) (m_recv hK hR) rfl hl.1 rfl (Nat.le_of_ble_eq_true rfl) dX5_looks_76 ⟨Nat.zero_le _, Nat.zero_le _⟩ (fun r_49 hr_49 => ?_)
                rw [hr_49]
                refine z_ifb_eq (tgt := 96) hx hb dX5_looks_79 (by decide) (fun c_50 => ?_) (fun c_50 => ?_)
                · refine z_iconst hx hb dX5_looks_96 ?_
                  refine lv_istore (lv' := [(5, .int (zI 0)), (2, .int (zI (σ 16 k))), (0, .ref b), (1, .int (zI k)), (3, .int (zI f)), (4, .int (zI i))]) hx hb dX5_looks_97 hl (by decide) rfl (fun ls hl => ?_)
                  refine lv_iload hx hb dX5_looks_99 (lv_at hl 0 rfl) ?_
                  refine z_if_eq (tgt := 109) hx hb dX5_looks_101 (by decide) (by omega) (fun c_51 => ?_) (fun c_51 => ?_)
                  · refine z_iconst hx hb dX5_looks_109 ?_
                    refine lv_istore_n (lv' := [(3, .int (zI (-1))), (5, .int (zI 0)), (2, .int (zI (σ 16 k))), (0, .ref b), (1, .int (zI k)), (4, .int (zI i))]) hx hb dX5_looks_110 rfl hl (by decide) rfl (fun ls hl => ?_)
                    refine z_iinc (lv' := [(4, .int (zI (i + 1))), (3, .int (zI (-1))), (5, .int (zI 0)), (2, .int (zI (σ 16 k))), (0, .ref b), (1, .int (zI k))]) hx hb dX5_looks_111 hl (k := 5) rfl (by decide) rfl (fun ls hl => ?_)
                    refine lv_goto (tgt := 32) hx hb dX5_looks_114 (by decide) ?_
                    exact wo _ _ _ _ _ (ih (-1) (i + 1) ls (by refine Or.inl ⟨rfl, ?_⟩; rcases hf with hf | hf <;> first | omega | (rw [hf.2, zSrch_fi (by omega) (fun q => by first | exact absurd q.1 (by assumption) | exact absurd q.2.1 (by assumption) | exact absurd q.2.2.1 (by assumption) | exact absurd q.2.2.2 (by assumption)), show (σ 16 k) + 1441 - (i + 1) = (σ 16 k) + 1441 - i - 1 by omega])) (by omega) (by omega) (by omega) (lv_sub hl [3, 4, 5, 1, 0] rfl))
                  · exact absurd c_51 (by decide)
                · refine lv_aload_n hx hb dX5_looks_82 rfl (lv_at hl 1 rfl) ?_
                  refine lv_iload_n hx hb dX5_looks_83 rfl (lv_at hl 2 rfl) ?_
                  refine lv_iload hx hb dX5_looks_84 (lv_at hl 4 rfl) ?_
                  refine z_cv (As := [.int (zI k), .int (zI i)]) (rest := []) ⟨hx, hb, hml, hown, hts⟩ (c_X5_tugsDo l D cI cO cL b ma σ s.heap hR k i hI (by omega) (by omega)) (cwV 2 hts gX5_looks_X5_tugsDo rfl rfl rfl (by decide +kernel) ⟨Nat.le_of_ble_eq_true rfl, Nat.le_of_ble_eq_true rfl⟩) (zKK_mv D cI cO cL) (fun U _ hv => va_K.moved hv hK) (m_recv hK hR) rfl hl.1 rfl (Nat.le_of_ble_eq_true rfl) dX5_looks_86 ⟨Nat.zero_le _, Nat.zero_le _⟩ (fun r_52 hr_52 => ?_)
                  rw [hr_52]
                  refine z_ifb_eq (tgt := 96) hx hb dX5_looks_89 (by decide) (fun c_53 => ?_) (fun c_53 => ?_)
                  · refine z_iconst hx hb dX5_looks_96 ?_
                    refine lv_istore (lv' := [(5, .int (zI 0)), (2, .int (zI (σ 16 k))), (0, .ref b), (1, .int (zI k)), (3, .int (zI f)), (4, .int (zI i))]) hx hb dX5_looks_97 hl (by decide) rfl (fun ls hl => ?_)
                    refine lv_iload hx hb dX5_looks_99 (lv_at hl 0 rfl) ?_
                    refine z_if_eq (tgt := 109) hx hb dX5_looks_101 (by decide) (by omega) (fun c_54 => ?_) (fun c_54 => ?_)
                    · refine z_iconst hx hb dX5_looks_109 ?_
                      refine lv_istore_n (lv' := [(3, .int (zI (-1))), (5, .int (zI 0)), (2, .int (zI (σ 16 k))), (0, .ref b), (1, .int (zI k)), (4, .int (zI i))]) hx hb dX5_looks_110 rfl hl (by decide) rfl (fun ls hl => ?_)
                      refine z_iinc (lv' := [(4, .int (zI (i + 1))), (3, .int (zI (-1))), (5, .int (zI 0)), (2, .int (zI (σ 16 k))), (0, .ref b), (1, .int (zI k))]) hx hb dX5_looks_111 hl (k := 5) rfl (by decide) rfl (fun ls hl => ?_)
                      refine lv_goto (tgt := 32) hx hb dX5_looks_114 (by decide) ?_
                      exact wo _ _ _ _ _ (ih (-1) (i + 1) ls (by refine Or.inl ⟨rfl, ?_⟩; rcases hf with hf | hf <;> first | omega | (rw [hf.2, zSrch_fi (by omega) (fun q => by first | exact absurd q.1 (by assumption) | exact absurd q.2.1 (by assumption) | exact absurd q.2.2.1 (by assumption) | exact absurd q.2.2.2 (by assumption)), show (σ 16 k) + 1441 - (i + 1) = (σ 16 k) + 1441 - i - 1 by omega])) (by omega) (by omega) (by omega) (lv_sub hl [3, 4, 5, 1, 0] rfl))
                    · exact absurd c_54 (by decide)
                  · refine z_iconst hx hb dX5_looks_92 ?_
                    refine lv_goto (tgt := 97) hx hb dX5_looks_93 (by decide) ?_
                    refine lv_istore (lv' := [(5, .int (zI 1)), (2, .int (zI (σ 16 k))), (0, .ref b), (1, .int (zI k)), (3, .int (zI f)), (4, .int (zI i))]) hx hb dX5_looks_97 hl (by decide) rfl (fun ls hl => ?_)
                    refine lv_iload hx hb dX5_looks_99 (lv_at hl 0 rfl) ?_
                    refine z_if_eq (tgt := 109) hx hb dX5_looks_101 (by decide) (by omega) (fun c_55 => ?_) (fun c_55 => ?_)
                    · exact absurd c_55 (by decide)
                    · refine lv_iload hx hb dX5_looks_104 (lv_at hl 5 rfl) ?_
                      refine lv_goto (tgt := 110) hx hb dX5_looks_106 (by decide) ?_
                      refine lv_istore_n (lv' := [(3, .int (zI i)), (5, .int (zI 1)), (2, .int (zI (σ 16 k))), (0, .ref b), (1, .int (zI k)), (4, .int (zI i))]) hx hb dX5_looks_110 rfl hl (by decide) rfl (fun ls hl => ?_)
                      refine z_iinc (lv' := [(4, .int (zI (i + 1))), (3, .int (zI i)), (5, .int (zI 1)), (2, .int (zI (σ 16 k))), (0, .ref b), (1, .int (zI k))]) hx hb dX5_looks_111 hl (k := 5) rfl (by decide) rfl (fun ls hl => ?_)
                      refine lv_goto (tgt := 32) hx hb dX5_looks_114 (by decide) ?_
                      exact wo _ _ _ _ _ (ih i (i + 1) ls (by refine Or.inr ⟨by omega, ?_⟩; rcases hf with hf | hf <;> first | omega | (rw [hf.2]; exact zSrch_ti (by omega) ⟨by assumption, by assumption, by assumption, by assumption⟩)) (by omega) (by omega) (by omega) (lv_sub hl [3, 4, 5, 1, 0] rfl))
    exact wo _ _ _ _ _ (hL _ (-1) (σ 16 k) ls (by refine Or.inl ⟨rfl, ?_⟩; unfold zFind; rw [show (σ 16 k) + 1441 - (σ 16 k) = 1441 by omega]; (first | rw [if_pos (by omega)] | rw [if_neg (by omega)]) <;> rfl) (by omega) (by omega) (Nat.lt_succ_self _) (lv_sub hl [2, 3, 4, 1, 0] rfl))

theorem lk_X5_again_53 : Cond.fieldLink RX5 53 "HarbourPilotlineModel" "state" "[I" ∈ wsX5_again := by decide +kernel
theorem lk_X5_again_59 : Cond.fieldLink RX5 59 "HarbourPilotlineModel" "thrown" "I" ∈ wsX5_again := by decide +kernel
theorem lk_X5_again_56 : Cond.fieldLink RX5 56 "HarbourPilotlineModel" "slot" "[I" ∈ wsX5_again := by decide +kernel
theorem in_X5_again : ∀ w ∈ wsX50, w ∈ wsX5_again := by decide +kernel
set_option maxRecDepth 100000 in
set_option maxHeartbeats 4000000 in
theorem c_X5_again (l : Launch) (D : va_G) (cI cO cL : ClassId) (b : Nat) (ma : Nat → Nat) (hM : MA b ma) (σ : zT) (H0 : Heap) (hR : RM D cI b ma σ H0) (k : Int) (hI : zInv σ) (hk : (-2147483648 ≤ k ∧ k < 2147483648)) : zWM l yX5_again wsX5_again ({ frames := 4, cells := 0, slots := 0, locals := 95 }) D cI cO cL b ma [.ref b, .int (zI k)] H0 (zPost (zth_again σ k) (zan_again (zup σ 0 0 0) k) (zst_again (zup σ 0 0 0) k) (zup σ 0 0 (zth_again σ k))) := by
  refine Met.ofW (cc := cX5_again) (maxL := 2) (ret := (some .int)) (by decide) rfl ?_
  intro p e s m args below meth c s₁ B hml hv
  obtain ⟨rfl, hH, hK⟩ := hv
  subst hH
  have hx := B.exec
  have hb := B.bytes
  have hr := B.returns
  have hts := atoms_spec (ws := wsX5_again) B.pre
  have hown : s.vm.findClass RX5 = some m.cls := findClass_of_methodNamed B.named
  have hlocks := B.notSynchronized
  have hl := lv_entry ([.ref b, .int (zI k)]) (n := 2) (Nat.le_of_ble_eq_true rfl)
  rw [lg_entry_eq]
  generalize (lg_sl ([.ref b, .int (zI k)]) ++ List.replicate (2 - (lg_sl ([.ref b, .int (zI k)])).length) Slot.unset).toArray = ls at hl ⊢
  have hl : lv_has ls 2 [(0, .ref b), (1, .int (zI k))] := hl
  have f0 := hI.r
  refine lv_aload_n hx hb dX5_again_0 rfl (lv_at hl 0 rfl) ?_
  refine lv_aload_n hx hb dX5_again_1 rfl (lv_at hl 0 rfl) ?_
  refine lv_iload_n hx hb dX5_again_2 rfl (lv_at hl 1 rfl) ?_
  refine z_cv (As := [.int (zI k)]) (rest := [.ref b]) ⟨hx, hb, hml, hown, hts⟩ (c_X5_isConference l D cI cO cL b ma σ s.heap hR k (by omega) (by omega)) (cwV 1 hts gX5_again_X5_isConference rfl rfl rfl (by decide +kernel) ⟨Nat.le_of_ble_eq_true rfl, Nat.le_of_ble_eq_true rfl⟩) (zKK_mv D cI cO cL) (fun U _ hv => va_K.moved hv hK) (m_recv hK hR) rfl hl.1 rfl (Nat.le_of_ble_eq_true rfl) dX5_again_3 ⟨Nat.zero_le _, Nat.zero_le _⟩ (fun r_1 hr_1 => ?_)
  rw [hr_1]
  refine z_ifb_ne (tgt := 13) hx hb dX5_again_6 (by decide) (fun c_2 => ?_) (fun c_2 => ?_)
  · have fk := hI.c (i := k) (by omega)
    have gk := hI.s (i := σ 15 k) (by omega)
    refine lv_aload_n hx hb dX5_again_13 rfl (lv_at hl 0 rfl) ?_
    refine m_get hx hb hts in_X5_again hown hK hR 19 (by decide) lk_X5_again_53 rfl rfl dX5_again_14 ?_
    refine lv_iload_n hx hb dX5_again_17 rfl (lv_at hl 1 rfl) ?_
    refine m_ald hx hb hK hR 19 rfl (by show 0 ≤ k ∧ k < ((40 : Nat) : Int); omega) dX5_again_18 ?_
    refine z_iconst hx hb dX5_again_19 ?_
    refine z_icmp_ne (tgt := 27) hx hb dX5_again_20 (by decide) (by omega) (fun c_3 => ?_) (fun c_3 => ?_)
    · refine z_iconst hx hb dX5_again_27 ?_
      refine m_put hx hb hts in_X5_again hown hK hR hM va_S.rf 0 (by decide) rfl lk_X5_again_59 rfl rfl rfl rfl dX5_again_28 (fun H_4 locsH_4 hRH_4 hzH_4 hSH_4 => ?_)
      refine lv_aload_n hx hb dX5_again_31 rfl (lv_at hl 0 rfl) ?_
      refine m_get hx hb hts in_X5_again hown hK hRH_4 0 (by decide) lk_X5_again_59 rfl rfl dX5_again_32 ?_
      refine z_top (b := 2) (by rw [zup_s]) ?_
      refine z_if_le (tgt := 40) hx hb dX5_again_35 (by decide) (by omega) (fun c_5 => ?_) (fun c_5 => ?_)
      · exact absurd c_5 (by decide)
      · refine z_iconst hx hb dX5_again_38 ?_
        have ht : zth_again σ k = 2 := by unfold zth_again; (repeat' split) <;> omega
        exact W.iret hx hb hr (z_endM (post := zPost (zth_again σ k) (zan_again (zup σ 0 0 0) k) (zst_again (zup σ 0 0 0) k) (zup σ 0 0 (zth_again σ k))) (σ' := (zup σ 0 0 2)) (v := some (.int (zI 0))) (zPost_no (a := 0) ht (by decide)) hRH_4 (hzH_4.trans rfl) hSH_4) hSH_4.2.2 dX5_again_39
    · refine z_iconst hx hb dX5_again_23 ?_
      refine lv_goto (tgt := 28) hx hb dX5_again_24 (by decide) ?_
      refine m_put hx hb hts in_X5_again hown hK hR hM va_S.rf 0 (by decide) rfl lk_X5_again_59 rfl rfl rfl rfl dX5_again_28 (fun H_6 locsH_6 hRH_6 hzH_6 hSH_6 => ?_)
      refine lv_aload_n hx hb dX5_again_31 rfl (lv_at hl 0 rfl) ?_
      refine m_get hx hb hts in_X5_again hown hK hRH_6 0 (by decide) lk_X5_again_59 rfl rfl dX5_again_32 ?_
      refine z_top (b := 0) (by rw [zup_s]) ?_
      refine z_if_le (tgt := 40) hx hb dX5_again_35 (by decide) (by omega) (fun c_7 => ?_) (fun c_7 => ?_)
      · refine lv_aload_n hx hb dX5_again_40 rfl (lv_at hl 0 rfl) ?_
        refine lv_iload_n hx hb dX5_again_41 rfl (lv_at hl 1 rfl) ?_
        refine z_wm (As := [.int (zI k)]) (rest := []) ⟨hx, hb, hml, hown, hts⟩ (c_X5_looks l D cI cO cL b ma hM (zup σ 0 0 0) H_6 hRH_6 k (zInv_th hI 0) (by show 0 ≤ k ∧ k < σ 14 0; omega)) (cwV 1 hts gX5_again_X5_looks rfl rfl rfl (by decide +kernel) ⟨Nat.le_of_ble_eq_true rfl, Nat.le_of_ble_eq_true rfl⟩) hK hSH_6 (m_recv hK hRH_6) rfl hl.1 rfl (Nat.le_of_ble_eq_true rfl) dX5_again_42 ⟨Nat.zero_le _, Nat.zero_le _⟩ (fun rH_8 σH_8 H_8 locsH_8 hpH_8 hRH_8 hzH_8 hSH_8 => ?_)
        obtain ⟨rfl, rfl⟩ := hpH_8
        refine lv_aload_n hx hb dX5_again_45 rfl (lv_at hl 0 rfl) ?_
        refine m_get hx hb hts in_X5_again hown hK hRH_8 20 (by decide) lk_X5_again_56 rfl rfl dX5_again_46 ?_
        refine lv_iload_n hx hb dX5_again_49 rfl (lv_at hl 1 rfl) ?_
        refine m_ald hx hb hK hRH_8 20 rfl (by show 0 ≤ k ∧ k < ((40 : Nat) : Int); omega) dX5_again_50 ?_
        have ht : zth_again σ k = 0 := by unfold zth_again; (repeat' split) <;> omega
        exact W.iret hx hb hr (z_endM (post := zPost (zth_again σ k) (zan_again (zup σ 0 0 0) k) (zst_again (zup σ 0 0 0) k) (zup σ 0 0 (zth_again σ k))) (σ' := (zLook (zup σ 0 0 0) k)) (v := some (.int (zI ((zLook (zup σ 0 0 0) k) 20 k)))) (zPost_ok (a := ((zLook (zup σ 0 0 0) k) 20 k)) ht (by rfl) (by rfl)) hRH_8 (hzH_8.trans (hzH_6.trans rfl)) hSH_8) hSH_8.2.2 dX5_again_51
      · exact absurd c_7 (by decide)
  · refine z_iconst hx hb dX5_again_9 ?_
    refine lv_goto (tgt := 28) hx hb dX5_again_10 (by decide) ?_
    refine m_put hx hb hts in_X5_again hown hK hR hM va_S.rf 0 (by decide) rfl lk_X5_again_59 rfl rfl rfl rfl dX5_again_28 (fun H_9 locsH_9 hRH_9 hzH_9 hSH_9 => ?_)
    refine lv_aload_n hx hb dX5_again_31 rfl (lv_at hl 0 rfl) ?_
    refine m_get hx hb hts in_X5_again hown hK hRH_9 0 (by decide) lk_X5_again_59 rfl rfl dX5_again_32 ?_
    refine z_top (b := 1) (by rw [zup_s]) ?_
    refine z_if_le (tgt := 40) hx hb dX5_again_35 (by decide) (by omega) (fun c_10 => ?_) (fun c_10 => ?_)
    · exact absurd c_10 (by decide)
    · refine z_iconst hx hb dX5_again_38 ?_
      have ht : zth_again σ k = 1 := by unfold zth_again; (repeat' split) <;> omega
      exact W.iret hx hb hr (z_endM (post := zPost (zth_again σ k) (zan_again (zup σ 0 0 0) k) (zst_again (zup σ 0 0 0) k) (zup σ 0 0 (zth_again σ k))) (σ' := (zup σ 0 0 1)) (v := some (.int (zI 0))) (zPost_no (a := 0) ht (by decide)) hRH_9 (hzH_9.trans rfl) hSH_9) hSH_9.2.2 dX5_again_39

theorem lk_X5_looksAnew_56 : Cond.fieldLink RX5 56 "HarbourPilotlineModel" "slot" "[I" ∈ wsX5_looksAnew := by decide +kernel
theorem lk_X5_looksAnew_53 : Cond.fieldLink RX5 53 "HarbourPilotlineModel" "state" "[I" ∈ wsX5_looksAnew := by decide +kernel
theorem in_X5_looksAnew : ∀ w ∈ wsX50, w ∈ wsX5_looksAnew := by decide +kernel
set_option maxRecDepth 100000 in
set_option maxHeartbeats 4000000 in
theorem c_X5_looksAnew (l : Launch) (D : va_G) (cI cO cL : ClassId) (b : Nat) (ma : Nat → Nat) (hM : MA b ma) (σ : zT) (H0 : Heap) (hR : RM D cI b ma σ H0) (k : Int) (hI : zInv σ) (hk : 0 ≤ k ∧ k < σ 14 0) : zWM l yX5_looksAnew wsX5_looksAnew ({ frames := 4, cells := 0, slots := 0, locals := 95 }) D cI cO cL b ma [.ref b, .int (zI k)] H0 ((fun rv σ' => rv = some (.int (zI (bI (¬ zLook σ k 20 k = σ 20 k)))) ∧ σ' = zLook σ k)) := by
  refine Met.ofW (cc := cX5_looksAnew) (maxL := 3) (ret := (some .boolean)) (by decide) rfl ?_
  intro p e s m args below meth c s₁ B hml hv
  obtain ⟨rfl, hH, hK⟩ := hv
  subst hH
  have hx := B.exec
  have hb := B.bytes
  have hr := B.returns
  have hts := atoms_spec (ws := wsX5_looksAnew) B.pre
  have hown : s.vm.findClass RX5 = some m.cls := findClass_of_methodNamed B.named
  have hlocks := B.notSynchronized
  have hl := lv_entry ([.ref b, .int (zI k)]) (n := 3) (Nat.le_of_ble_eq_true rfl)
  rw [lg_entry_eq]
  generalize (lg_sl ([.ref b, .int (zI k)]) ++ List.replicate (3 - (lg_sl ([.ref b, .int (zI k)])).length) Slot.unset).toArray = ls at hl ⊢
  have hl : lv_has ls 3 [(0, .ref b), (1, .int (zI k))] := hl
  have f0 := hI.r
  have fk := hI.c hk
  have gk := hI.s (i := σ 15 k) (by omega)
  have fr := zFind_r hI hk
  have el : zLook σ k 20 k = zFind σ k := zLook_20 σ k
  refine lv_aload_n hx hb dX5_looksAnew_0 rfl (lv_at hl 0 rfl) ?_
  refine m_get hx hb hts in_X5_looksAnew hown hK hR 20 (by decide) lk_X5_looksAnew_56 rfl rfl dX5_looksAnew_1 ?_
  refine lv_iload_n hx hb dX5_looksAnew_4 rfl (lv_at hl 1 rfl) ?_
  refine m_ald hx hb hK hR 20 rfl (by show 0 ≤ k ∧ k < ((40 : Nat) : Int); omega) dX5_looksAnew_5 ?_
  refine lv_istore_n (lv' := [(2, .int (zI (σ 20 k))), (0, .ref b), (1, .int (zI k))]) hx hb dX5_looksAnew_6 rfl hl (by decide) rfl (fun ls hl => ?_)
  refine lv_aload_n hx hb dX5_looksAnew_7 rfl (lv_at hl 1 rfl) ?_
  refine m_get hx hb hts in_X5_looksAnew hown hK hR 20 (by decide) lk_X5_looksAnew_56 rfl rfl dX5_looksAnew_8 ?_
  refine lv_iload_n hx hb dX5_looksAnew_11 rfl (lv_at hl 2 rfl) ?_
  refine z_iconst hx hb dX5_looksAnew_12 ?_
  refine m_ast hx hb hK hR hM va_S.rf 20 rfl (by show 0 ≤ k ∧ k < ((40 : Nat) : Int); omega) dX5_looksAnew_13 (fun H_1 locsH_1 hRH_1 hzH_1 hSH_1 => ?_)
  refine lv_aload_n hx hb dX5_looksAnew_14 rfl (lv_at hl 1 rfl) ?_
  refine m_get hx hb hts in_X5_looksAnew hown hK hRH_1 19 (by decide) lk_X5_looksAnew_53 rfl rfl dX5_looksAnew_15 ?_
  refine lv_iload_n hx hb dX5_looksAnew_18 rfl (lv_at hl 2 rfl) ?_
  refine z_iconst hx hb dX5_looksAnew_19 ?_
  refine m_ast hx hb hK hRH_1 hM hSH_1 19 rfl (by show 0 ≤ k ∧ k < ((40 : Nat) : Int); omega) dX5_looksAnew_20 (fun H_2 locsH_2 hRH_2 hzH_2 hSH_2 => ?_)
  refine lv_aload_n hx hb dX5_looksAnew_21 rfl (lv_at hl 1 rfl) ?_
  refine lv_iload_n hx hb dX5_looksAnew_22 rfl (lv_at hl 2 rfl) ?_
  refine z_wm (As := [.int (zI k)]) (rest := []) ⟨hx, hb, hml, hown, hts⟩ (c_X5_looks l D cI cO cL b ma hM (zup (zup σ 20 k (-1)) 19 k 1) H_2 hRH_2 k (zInv_ss hI (by omega)) (by show 0 ≤ k ∧ k < σ 14 0; omega)) (cwV 1 hts gX5_looksAnew_X5_looks rfl rfl rfl (by decide +kernel) ⟨Nat.le_of_ble_eq_true rfl, Nat.le_of_ble_eq_true rfl⟩) hK hSH_2 (m_recv hK hRH_2) rfl hl.1 rfl (Nat.le_of_ble_eq_true rfl) dX5_looksAnew_23 ⟨Nat.zero_le _, Nat.zero_le _⟩ (fun rH_3 σH_3 H_3 locsH_3 hpH_3 hRH_3 hzH_3 hSH_3 => ?_)
  obtain ⟨rfl, rfl⟩ := hpH_3
  rw [zLook_anew] at hRH_3
  refine lv_aload_n hx hb dX5_looksAnew_26 rfl (lv_at hl 1 rfl) ?_
  refine m_get hx hb hts in_X5_looksAnew hown hK hRH_3 20 (by decide) lk_X5_looksAnew_56 rfl rfl dX5_looksAnew_27 ?_
  refine lv_iload_n hx hb dX5_looksAnew_30 rfl (lv_at hl 2 rfl) ?_
  refine m_ald hx hb hK hRH_3 20 rfl (by show 0 ≤ k ∧ k < ((40 : Nat) : Int); omega) dX5_looksAnew_31 ?_
  refine lv_iload_n hx hb dX5_looksAnew_32 rfl (lv_at hl 0 rfl) ?_
  refine z_icmp_eq (tgt := 40) hx hb dX5_looksAnew_33 (by decide) (by omega) (fun c_4 => ?_) (fun c_4 => ?_)
  · refine z_iconst hx hb dX5_looksAnew_40 ?_
    exact W.zret hx hb hr rfl (z_endM (post := (fun rv σ' => rv = some (.int (zI (bI (¬ zLook σ k 20 k = σ 20 k)))) ∧ σ' = zLook σ k)) (σ' := (zLook σ k)) (v := (some (.int (zI 0)))) ⟨by rw [bI_f (by omega)], rfl⟩ hRH_3 (hzH_3.trans (hzH_2.trans (hzH_1.trans rfl))) hSH_3) hSH_3.2.2 dX5_looksAnew_41
  · refine z_iconst hx hb dX5_looksAnew_36 ?_
    refine lv_goto (tgt := 41) hx hb dX5_looksAnew_37 (by decide) ?_
    exact W.zret hx hb hr rfl (z_endM (post := (fun rv σ' => rv = some (.int (zI (bI (¬ zLook σ k 20 k = σ 20 k)))) ∧ σ' = zLook σ k)) (σ' := (zLook σ k)) (v := (some (.int (zI 1)))) ⟨by rw [bI_t (by omega)], rfl⟩ hRH_3 (hzH_3.trans (hzH_2.trans (hzH_1.trans rfl))) hSH_3) hSH_3.2.2 dX5_looksAnew_41

theorem lk_X5_join_59 : Cond.fieldLink RX5 59 "HarbourPilotlineModel" "thrown" "I" ∈ wsX5_join := by decide +kernel
theorem lk_X5_join_47 : Cond.fieldLink RX5 47 "HarbourPilotlineModel" "in" "[I" ∈ wsX5_join := by decide +kernel
theorem lk_X5_join_56 : Cond.fieldLink RX5 56 "HarbourPilotlineModel" "slot" "[I" ∈ wsX5_join := by decide +kernel
theorem lk_X5_join_50 : Cond.fieldLink RX5 50 "HarbourPilotlineModel" "pilot" "[I" ∈ wsX5_join := by decide +kernel
theorem lk_X5_join_35 : Cond.fieldLink RX5 35 "HarbourPilotlineModel" "licence" "[I" ∈ wsX5_join := by decide +kernel
theorem lk_X5_join_23 : Cond.fieldLink RX5 23 "HarbourPilotlineModel" "tons" "[I" ∈ wsX5_join := by decide +kernel
theorem lk_X5_join_41 : Cond.fieldLink RX5 41 "HarbourPilotlineModel" "ship" "[I" ∈ wsX5_join := by decide +kernel
theorem in_X5_join : ∀ w ∈ wsX50, w ∈ wsX5_join := by decide +kernel
set_option maxRecDepth 100000 in
set_option maxHeartbeats 4000000 in
theorem c_X5_join (l : Launch) (D : va_G) (cI cO cL : ClassId) (b : Nat) (ma : Nat → Nat) (hM : MA b ma) (σ : zT) (H0 : Heap) (hR : RM D cI b ma σ H0) (k w q : Int) (hI : zInv σ) (hk : (-2147483648 ≤ k ∧ k < 2147483648)) (hw : (-2147483648 ≤ w ∧ w < 2147483648)) (hq : (-2147483648 ≤ q ∧ q < 2147483648)) : zWM l yX5_join wsX5_join ({ frames := 4, cells := 0, slots := 0, locals := 95 }) D cI cO cL b ma [.ref b, .int (zI k), .int (zI w), .int (zI q)] H0 (zPost (zth_join σ k w q) (zan_join (zup σ 0 0 0) k w q) (zst_join (zup σ 0 0 0) k w q) (zup σ 0 0 (zth_join σ k w q))) := by
  refine Met.ofW (cc := cX5_join) (maxL := 6) (ret := (some .int)) (by decide) rfl ?_
  intro p e s m args below meth c s₁ B hml hv
  obtain ⟨rfl, hH, hK⟩ := hv
  subst hH
  have hx := B.exec
  have hb := B.bytes
  have hr := B.returns
  have hts := atoms_spec (ws := wsX5_join) B.pre
  have hown : s.vm.findClass RX5 = some m.cls := findClass_of_methodNamed B.named
  have hlocks := B.notSynchronized
  have hl := lv_entry ([.ref b, .int (zI k), .int (zI w), .int (zI q)]) (n := 6) (Nat.le_of_ble_eq_true rfl)
  rw [lg_entry_eq]
  generalize (lg_sl ([.ref b, .int (zI k), .int (zI w), .int (zI q)]) ++ List.replicate (6 - (lg_sl ([.ref b, .int (zI k), .int (zI w), .int (zI q)])).length) Slot.unset).toArray = ls at hl ⊢
  have hl : lv_has ls 6 [(0, .ref b), (1, .int (zI k)), (2, .int (zI w)), (3, .int (zI q))] := hl
  have f0 := hI.r
  refine lv_aload_n hx hb dX5_join_0 rfl (lv_at hl 0 rfl) ?_
  refine lv_iload_n hx hb dX5_join_1 rfl (lv_at hl 1 rfl) ?_
  refine z_cv (As := [.int (zI k)]) (rest := []) ⟨hx, hb, hml, hown, hts⟩ (c_X5_isConference l D cI cO cL b ma σ s.heap hR k (by omega) (by omega)) (cwV 1 hts gX5_join_X5_isConference rfl rfl rfl (by decide +kernel) ⟨Nat.le_of_ble_eq_true rfl, Nat.le_of_ble_eq_true rfl⟩) (zKK_mv D cI cO cL) (fun U _ hv => va_K.moved hv hK) (m_recv hK hR) rfl hl.1 rfl (Nat.le_of_ble_eq_true rfl) dX5_join_2 ⟨Nat.zero_le _, Nat.zero_le _⟩ (fun r_1 hr_1 => ?_)
  rw [hr_1]
  refine z_ifb_eq (tgt := 34) hx hb dX5_join_5 (by decide) (fun c_2 => ?_) (fun c_2 => ?_)
  · refine z_iconst hx hb dX5_join_34 ?_
    refine lv_istore (lv' := [(4, .int (zI 0)), (0, .ref b), (1, .int (zI k)), (2, .int (zI w)), (3, .int (zI q))]) hx hb dX5_join_35 hl (by decide) rfl (fun ls hl => ?_)
    refine lv_aload_n hx hb dX5_join_37 rfl (lv_at hl 1 rfl) ?_
    refine lv_iload hx hb dX5_join_38 (lv_at hl 0 rfl) ?_
    refine z_if_eq (tgt := 47) hx hb dX5_join_40 (by decide) (by omega) (fun c_3 => ?_) (fun c_3 => ?_)
    · refine z_iconst hx hb dX5_join_47 ?_
      refine m_put hx hb hts in_X5_join hown hK hR hM va_S.rf 0 (by decide) rfl lk_X5_join_59 rfl rfl rfl rfl dX5_join_48 (fun H_4 locsH_4 hRH_4 hzH_4 hSH_4 => ?_)
      refine lv_aload_n hx hb dX5_join_51 rfl (lv_at hl 1 rfl) ?_
      refine m_get hx hb hts in_X5_join hown hK hRH_4 0 (by decide) lk_X5_join_59 rfl rfl dX5_join_52 ?_
      refine z_top (b := 1) (by rw [zup_s]) ?_
      refine z_if_ne (tgt := 113) hx hb dX5_join_55 (by decide) (by omega) (fun c_5 => ?_) (fun c_5 => ?_)
      · refine lv_aload_n hx hb dX5_join_113 rfl (lv_at hl 1 rfl) ?_
        refine m_get hx hb hts in_X5_join hown hK hRH_4 0 (by decide) lk_X5_join_59 rfl rfl dX5_join_114 ?_
        refine z_top (b := 1) (by rw [zup_s]) ?_
        refine z_if_le (tgt := 122) hx hb dX5_join_117 (by decide) (by omega) (fun c_6 => ?_) (fun c_6 => ?_)
        · exact absurd c_6 (by decide)
        · refine z_iconst hx hb dX5_join_120 ?_
          have ht : zth_join σ k w q = 1 := by unfold zth_join; (repeat' split) <;> omega
          exact W.iret hx hb hr (z_endM (post := zPost (zth_join σ k w q) (zan_join (zup σ 0 0 0) k w q) (zst_join (zup σ 0 0 0) k w q) (zup σ 0 0 (zth_join σ k w q))) (σ' := (zup σ 0 0 1)) (v := some (.int (zI 0))) (zPost_no (a := 0) ht (by decide)) hRH_4 (hzH_4.trans rfl) hSH_4) hSH_4.2.2 dX5_join_121
      · exact absurd c_5 (by decide)
    · exact absurd c_3 (by decide)
  · have fk := hI.c (i := k) (by omega)
    have gk := hI.s (i := σ 15 k) (by omega)
    refine lv_iload_n hx hb dX5_join_8 rfl (lv_at hl 2 rfl) ?_
    refine z_iconst hx hb dX5_join_9 ?_
    refine z_iconst hx hb dX5_join_10 ?_
    refine z_cs (As := [.int (zI w), .int (zI 0), .int (zI 2)]) (rest := []) ⟨hx, hb, hml, hown, hts⟩ (c_X5_in l D cI cO cL b ma σ s.heap hR w 0 2 (by omega)) (va_cwS 3 hts gX5_join_X5_in rfl rfl rfl (by decide +kernel) ⟨Nat.le_of_ble_eq_true rfl, Nat.le_of_ble_eq_true rfl⟩) (zKK_mv D cI cO cL) (fun U _ hv => va_K.moved hv hK) rfl hl.1 rfl (Nat.le_of_ble_eq_true rfl) dX5_join_11 ⟨Nat.zero_le _, Nat.zero_le _⟩ (fun r_7 hr_7 => ?_)
    rw [hr_7]
    refine z_ifb_eq (tgt := 34) hx hb dX5_join_14 (by decide) (fun c_8 => ?_) (fun c_8 => ?_)
    · refine z_iconst hx hb dX5_join_34 ?_
      refine lv_istore (lv' := [(4, .int (zI 0)), (0, .ref b), (1, .int (zI k)), (2, .int (zI w)), (3, .int (zI q))]) hx hb dX5_join_35 hl (by decide) rfl (fun ls hl => ?_)
      refine lv_aload_n hx hb dX5_join_37 rfl (lv_at hl 1 rfl) ?_
      refine lv_iload hx hb dX5_join_38 (lv_at hl 0 rfl) ?_
      refine z_if_eq (tgt := 47) hx hb dX5_join_40 (by decide) (by omega) (fun c_9 => ?_) (fun c_9 => ?_)
      · refine z_iconst hx hb dX5_join_47 ?_
        refine m_put hx hb hts in_X5_join hown hK hR hM va_S.rf 0 (by decide) rfl lk_X5_join_59 rfl rfl rfl rfl dX5_join_48 (fun H_10 locsH_10 hRH_10 hzH_10 hSH_10 => ?_)
        refine lv_aload_n hx hb dX5_join_51 rfl (lv_at hl 1 rfl) ?_
        refine m_get hx hb hts in_X5_join hown hK hRH_10 0 (by decide) lk_X5_join_59 rfl rfl dX5_join_52 ?_
        refine z_top (b := 1) (by rw [zup_s]) ?_
        refine z_if_ne (tgt := 113) hx hb dX5_join_55 (by decide) (by omega) (fun c_11 => ?_) (fun c_11 => ?_)
        · refine lv_aload_n hx hb dX5_join_113 rfl (lv_at hl 1 rfl) ?_
          refine m_get hx hb hts in_X5_join hown hK hRH_10 0 (by decide) lk_X5_join_59 rfl rfl dX5_join_114 ?_
          refine z_top (b := 1) (by rw [zup_s]) ?_
          refine z_if_le (tgt := 122) hx hb dX5_join_117 (by decide) (by omega) (fun c_12 => ?_) (fun c_12 => ?_)
          · exact absurd c_12 (by decide)
          · refine z_iconst hx hb dX5_join_120 ?_
            have ht : zth_join σ k w q = 1 := by unfold zth_join; (repeat' split) <;> omega
            exact W.iret hx hb hr (z_endM (post := zPost (zth_join σ k w q) (zan_join (zup σ 0 0 0) k w q) (zst_join (zup σ 0 0 0) k w q) (zup σ 0 0 (zth_join σ k w q))) (σ' := (zup σ 0 0 1)) (v := some (.int (zI 0))) (zPost_no (a := 0) ht (by decide)) hRH_10 (hzH_10.trans rfl) hSH_10) hSH_10.2.2 dX5_join_121
        · exact absurd c_11 (by decide)
      · exact absurd c_9 (by decide)
    · refine lv_iload_n hx hb dX5_join_17 rfl (lv_at hl 2 rfl) ?_
      refine z_iconst hx hb dX5_join_18 ?_
      refine z_icmp_ne (tgt := 30) hx hb dX5_join_19 (by decide) (by omega) (fun c_13 => ?_) (fun c_13 => ?_)
      · refine z_iconst hx hb dX5_join_30 ?_
        refine lv_goto (tgt := 35) hx hb dX5_join_31 (by decide) ?_
        refine lv_istore (lv' := [(4, .int (zI 1)), (0, .ref b), (1, .int (zI k)), (2, .int (zI w)), (3, .int (zI q))]) hx hb dX5_join_35 hl (by decide) rfl (fun ls hl => ?_)
        refine lv_aload_n hx hb dX5_join_37 rfl (lv_at hl 1 rfl) ?_
        refine lv_iload hx hb dX5_join_38 (lv_at hl 0 rfl) ?_
        refine z_if_eq (tgt := 47) hx hb dX5_join_40 (by decide) (by omega) (fun c_14 => ?_) (fun c_14 => ?_)
        · exact absurd c_14 (by decide)
        · refine z_iconst hx hb dX5_join_43 ?_
          refine lv_goto (tgt := 48) hx hb dX5_join_44 (by decide) ?_
          refine m_put hx hb hts in_X5_join hown hK hR hM va_S.rf 0 (by decide) rfl lk_X5_join_59 rfl rfl rfl rfl dX5_join_48 (fun H_15 locsH_15 hRH_15 hzH_15 hSH_15 => ?_)
          refine lv_aload_n hx hb dX5_join_51 rfl (lv_at hl 1 rfl) ?_
          refine m_get hx hb hts in_X5_join hown hK hRH_15 0 (by decide) lk_X5_join_59 rfl rfl dX5_join_52 ?_
          refine z_top (b := 0) (by rw [zup_s]) ?_
          refine z_if_ne (tgt := 113) hx hb dX5_join_55 (by decide) (by omega) (fun c_16 => ?_) (fun c_16 => ?_)
          · exact absurd c_16 (by decide)
          · refine lv_aload_n hx hb dX5_join_58 rfl (lv_at hl 1 rfl) ?_
            refine lv_iload_n hx hb dX5_join_59 rfl (lv_at hl 2 rfl) ?_
            refine lv_iload_n hx hb dX5_join_60 rfl (lv_at hl 3 rfl) ?_
            refine z_cv (As := [.int (zI k), .int (zI w)]) (rest := []) ⟨hx, hb, hml, hown, hts⟩ (c_X5_isIn l D cI cO cL b ma (zup σ 0 0 0) H_15 hRH_15 k w (zInv_th hI 0) (by show 0 ≤ k ∧ k < σ 14 0; omega) (by show 0 ≤ w ∧ w ≤ 2; omega)) (cwV 2 hts gX5_join_X5_isIn rfl rfl rfl (by decide +kernel) ⟨Nat.le_of_ble_eq_true rfl, Nat.le_of_ble_eq_true rfl⟩) (zKK_mv D cI cO cL) (fun U _ hv => va_K.moved hv hK) (m_recv hK hRH_15) rfl hl.1 rfl (Nat.le_of_ble_eq_true rfl) dX5_join_61 ⟨Nat.zero_le _, Nat.zero_le _⟩ (fun r_17 hr_17 => ?_)
            rw [hr_17]
            refine z_top (a := bI (zBit ((zup σ 0 0 0) 17 k) w = 1)) (b := bI (zBit (σ 17 k) w = 1)) rfl ?_
            refine z_ifb_ne (tgt := 96) hx hb dX5_join_64 (by decide) (fun c_18 => ?_) (fun c_18 => ?_)
            · refine z_iconst hx hb dX5_join_96 ?_
              refine lv_istore (lv' := [(5, .int (zI 0)), (4, .int (zI 1)), (0, .ref b), (1, .int (zI k)), (2, .int (zI w)), (3, .int (zI q))]) hx hb dX5_join_97 hl (by decide) rfl (fun ls hl => ?_)
              refine lv_aload_n hx hb dX5_join_99 rfl (lv_at hl 2 rfl) ?_
              refine lv_iload hx hb dX5_join_100 (lv_at hl 0 rfl) ?_
              refine z_if_eq (tgt := 109) hx hb dX5_join_102 (by decide) (by omega) (fun c_19 => ?_) (fun c_19 => ?_)
              · refine z_iconst hx hb dX5_join_109 ?_
                refine m_put hx hb hts in_X5_join hown hK hRH_15 hM hSH_15 0 (by decide) rfl lk_X5_join_59 rfl rfl rfl rfl dX5_join_110 (fun H_20 locsH_20 hRH_20 hzH_20 hSH_20 => ?_)
                rw [zup_2] at hRH_20
                refine lv_aload_n hx hb dX5_join_113 rfl (lv_at hl 2 rfl) ?_
                refine m_get hx hb hts in_X5_join hown hK hRH_20 0 (by decide) lk_X5_join_59 rfl rfl dX5_join_114 ?_
                refine z_top (b := 2) (by rw [zup_s]) ?_
                refine z_if_le (tgt := 122) hx hb dX5_join_117 (by decide) (by omega) (fun c_21 => ?_) (fun c_21 => ?_)
                · exact absurd c_21 (by decide)
                · refine z_iconst hx hb dX5_join_120 ?_
                  have ht : zth_join σ k w q = 2 := by unfold zth_join; (repeat' split) <;> omega
                  exact W.iret hx hb hr (z_endM (post := zPost (zth_join σ k w q) (zan_join (zup σ 0 0 0) k w q) (zst_join (zup σ 0 0 0) k w q) (zup σ 0 0 (zth_join σ k w q))) (σ' := (zup σ 0 0 2)) (v := some (.int (zI 0))) (zPost_no (a := 0) ht (by decide)) hRH_20 (hzH_20.trans (hzH_15.trans rfl)) hSH_20) hSH_20.2.2 dX5_join_121
              · exact absurd c_19 (by decide)
            · refine lv_iload_n hx hb dX5_join_67 rfl (lv_at hl 3 rfl) ?_
              refine z_iconst hx hb dX5_join_68 ?_
              refine z_icmp_ne (tgt := 92) hx hb dX5_join_69 (by decide) (by omega) (fun c_22 => ?_) (fun c_22 => ?_)
              · refine z_iconst hx hb dX5_join_92 ?_
                refine lv_goto (tgt := 97) hx hb dX5_join_93 (by decide) ?_
                refine lv_istore (lv' := [(5, .int (zI 1)), (4, .int (zI 1)), (0, .ref b), (1, .int (zI k)), (2, .int (zI w)), (3, .int (zI q))]) hx hb dX5_join_97 hl (by decide) rfl (fun ls hl => ?_)
                refine lv_aload_n hx hb dX5_join_99 rfl (lv_at hl 2 rfl) ?_
                refine lv_iload hx hb dX5_join_100 (lv_at hl 0 rfl) ?_
                refine z_if_eq (tgt := 109) hx hb dX5_join_102 (by decide) (by omega) (fun c_23 => ?_) (fun c_23 => ?_)
                · exact absurd c_23 (by decide)
                · refine z_iconst hx hb dX5_join_105 ?_
                  refine lv_goto (tgt := 110) hx hb dX5_join_106 (by decide) ?_
                  refine m_put hx hb hts in_X5_join hown hK hRH_15 hM hSH_15 0 (by decide) rfl lk_X5_join_59 rfl rfl rfl rfl dX5_join_110 (fun H_24 locsH_24 hRH_24 hzH_24 hSH_24 => ?_)
                  rw [zup_2] at hRH_24
                  refine lv_aload_n hx hb dX5_join_113 rfl (lv_at hl 2 rfl) ?_
                  refine m_get hx hb hts in_X5_join hown hK hRH_24 0 (by decide) lk_X5_join_59 rfl rfl dX5_join_114 ?_
                  refine z_top (b := 0) (by rw [zup_s]) ?_
                  refine z_if_le (tgt := 122) hx hb dX5_join_117 (by decide) (by omega) (fun c_25 => ?_) (fun c_25 => ?_)
                  · refine lv_aload_n hx hb dX5_join_122 rfl (lv_at hl 2 rfl) ?_
                    refine m_get hx hb hts in_X5_join hown hK hRH_24 17 (by decide) lk_X5_join_47 rfl rfl dX5_join_123 ?_
                    refine lv_iload_n hx hb dX5_join_126 rfl (lv_at hl 3 rfl) ?_
                    refine lv_dup2_11 hx hb dX5_join_127 rfl rfl ?_
                    refine m_ald hx hb hK hRH_24 17 rfl (by show 0 ≤ k ∧ k < ((40 : Nat) : Int); omega) dX5_join_128 ?_
                    refine z_top (b := σ 17 k) (by rw [zup_t (t := 0) (t' := 17) (by decide)]) ?_
                    refine z_iconst hx hb dX5_join_129 ?_
                    refine lv_iload_n hx hb dX5_join_130 rfl (lv_at hl 4 rfl) ?_
                    refine z_ishl hx hb dX5_join_131 (by omega) ?_
                    refine z_ior hx hb dX5_join_132 (by omega) ?_
                    refine m_ast hx hb hK hRH_24 hM hSH_24 17 rfl (by show 0 ≤ k ∧ k < ((40 : Nat) : Int); omega) dX5_join_133 (fun H_26 locsH_26 hRH_26 hzH_26 hSH_26 => ?_)
                    have hzs := zSet_r (x := σ 17 k) (w := w) fk.2.2.1 (by omega)
                    refine lv_iload_n hx hb dX5_join_134 rfl (lv_at hl 4 rfl) ?_
                    refine z_iconst hx hb dX5_join_135 ?_
                    refine z_icmp_ne (tgt := 146) hx hb dX5_join_136 (by decide) (by omega) (fun c_27 => ?_) (fun c_27 => ?_)
                    · refine lv_aload_n hx hb dX5_join_146 rfl (lv_at hl 2 rfl) ?_
                      refine m_get hx hb hts in_X5_join hown hK hRH_26 17 (by decide) lk_X5_join_47 rfl rfl dX5_join_147 ?_
                      refine lv_iload_n hx hb dX5_join_150 rfl (lv_at hl 3 rfl) ?_
                      refine m_ald hx hb hK hRH_26 17 rfl (by show 0 ≤ k ∧ k < ((40 : Nat) : Int); omega) dX5_join_151 ?_
                      refine z_top (b := (zSet (σ 17 k) w)) (by rw [zup_s]) ?_
                      refine z_bipush hx hb dX5_join_152 (by decide +kernel) ?_
                      refine z_icmp_ne (tgt := 162) hx hb dX5_join_154 (by decide) (by omega) (fun c_28 => ?_) (fun c_28 => ?_)
                      · refine lv_aload_n hx hb dX5_join_162 rfl (lv_at hl 2 rfl) ?_
                        refine m_get hx hb hts in_X5_join hown hK hRH_26 20 (by decide) lk_X5_join_56 rfl rfl dX5_join_163 ?_
                        refine lv_iload_n hx hb dX5_join_166 rfl (lv_at hl 3 rfl) ?_
                        refine m_ald hx hb hK hRH_26 20 rfl (by show 0 ≤ k ∧ k < ((40 : Nat) : Int); omega) dX5_join_167 ?_
                        refine z_top (b := σ 20 k) (by rw [zup_t (t := 17) (t' := 20) (by decide), zup_t (t := 0) (t' := 20) (by decide)]) ?_
                        have ht : zth_join σ k w q = 0 := by unfold zth_join; (repeat' split) <;> omega
                        exact W.iret hx hb hr (z_endM (post := zPost (zth_join σ k w q) (zan_join (zup σ 0 0 0) k w q) (zst_join (zup σ 0 0 0) k w q) (zup σ 0 0 (zth_join σ k w q))) (σ' := (zup (zup σ 0 0 0) 17 k (zSet (σ 17 k) w))) (v := some (.int (zI (σ 20 k)))) (zPost_ok (a := (σ 20 k)) ht (by unfold zan_join; rw [show zst_join (zup σ 0 0 0) k w q = zjn (zup σ 0 0 0) k w q from if_neg (show ¬ zSet (σ 17 k) w = 7 by omega)]; rw [show zjn (zup σ 0 0 0) k w q = zup (zup σ 0 0 0) 17 k (zSet ((zup σ 0 0 0) 17 k) w) from if_neg (by omega)]; try rfl) (by rw [show zst_join (zup σ 0 0 0) k w q = zjn (zup σ 0 0 0) k w q from if_neg (show ¬ zSet (σ 17 k) w = 7 by omega)]; rw [show zjn (zup σ 0 0 0) k w q = zup (zup σ 0 0 0) 17 k (zSet ((zup σ 0 0 0) 17 k) w) from if_neg (by omega)]; try rfl)) hRH_26 (hzH_26.trans (hzH_24.trans (hzH_15.trans rfl))) hSH_26) hSH_26.2.2 dX5_join_168
                      · refine lv_aload_n hx hb dX5_join_157 rfl (lv_at hl 2 rfl) ?_
                        refine lv_iload_n hx hb dX5_join_158 rfl (lv_at hl 3 rfl) ?_
                        refine z_wm (As := [.int (zI k)]) (rest := []) ⟨hx, hb, hml, hown, hts⟩ (c_X5_looks l D cI cO cL b ma hM (zup (zup σ 0 0 0) 17 k (zSet (σ 17 k) w)) H_26 hRH_26 k (zInv_17 (zInv_th hI 0) (zSet_r fk.2.2.1 (by omega))) (by show 0 ≤ k ∧ k < σ 14 0; omega)) (cwV 1 hts gX5_join_X5_looks rfl rfl rfl (by decide +kernel) ⟨Nat.le_of_ble_eq_true rfl, Nat.le_of_ble_eq_true rfl⟩) hK hSH_26 (m_recv hK hRH_26) rfl hl.1 rfl (Nat.le_of_ble_eq_true rfl) dX5_join_159 ⟨Nat.zero_le _, Nat.zero_le _⟩ (fun rH_29 σH_29 H_29 locsH_29 hpH_29 hRH_29 hzH_29 hSH_29 => ?_)
                        obtain ⟨rfl, rfl⟩ := hpH_29
                        refine lv_aload_n hx hb dX5_join_162 rfl (lv_at hl 2 rfl) ?_
                        refine m_get hx hb hts in_X5_join hown hK hRH_29 20 (by decide) lk_X5_join_56 rfl rfl dX5_join_163 ?_
                        refine lv_iload_n hx hb dX5_join_166 rfl (lv_at hl 3 rfl) ?_
                        refine m_ald hx hb hK hRH_29 20 rfl (by show 0 ≤ k ∧ k < ((40 : Nat) : Int); omega) dX5_join_167 ?_
                        have ht : zth_join σ k w q = 0 := by unfold zth_join; (repeat' split) <;> omega
                        exact W.iret hx hb hr (z_endM (post := zPost (zth_join σ k w q) (zan_join (zup σ 0 0 0) k w q) (zst_join (zup σ 0 0 0) k w q) (zup σ 0 0 (zth_join σ k w q))) (σ' := (zLook (zup (zup σ 0 0 0) 17 k (zSet (σ 17 k) w)) k)) (v := some (.int (zI ((zLook (zup (zup σ 0 0 0) 17 k (zSet (σ 17 k) w)) k) 20 k)))) (zPost_ok (a := ((zLook (zup (zup σ 0 0 0) 17 k (zSet (σ 17 k) w)) k) 20 k)) ht (by unfold zan_join; rw [show zst_join (zup σ 0 0 0) k w q = zLook (zjn (zup σ 0 0 0) k w q) k from if_pos (show zSet (σ 17 k) w = 7 by omega)]; rw [show zjn (zup σ 0 0 0) k w q = zup (zup σ 0 0 0) 17 k (zSet ((zup σ 0 0 0) 17 k) w) from if_neg (by omega)]; try rfl) (by rw [show zst_join (zup σ 0 0 0) k w q = zLook (zjn (zup σ 0 0 0) k w q) k from if_pos (show zSet (σ 17 k) w = 7 by omega)]; rw [show zjn (zup σ 0 0 0) k w q = zup (zup σ 0 0 0) 17 k (zSet ((zup σ 0 0 0) 17 k) w) from if_neg (by omega)]; try rfl)) hRH_29 (hzH_29.trans (hzH_26.trans (hzH_24.trans (hzH_15.trans rfl)))) hSH_29) hSH_29.2.2 dX5_join_168
                    · refine lv_aload_n hx hb dX5_join_139 rfl (lv_at hl 2 rfl) ?_
                      refine m_get hx hb hts in_X5_join hown hK hRH_26 18 (by decide) lk_X5_join_50 rfl rfl dX5_join_140 ?_
                      refine lv_iload_n hx hb dX5_join_143 rfl (lv_at hl 3 rfl) ?_
                      refine lv_iload_n hx hb dX5_join_144 rfl (lv_at hl 5 rfl) ?_
                      refine m_ast hx hb hK hRH_26 hM hSH_26 18 rfl (by show 0 ≤ k ∧ k < ((40 : Nat) : Int); omega) dX5_join_145 (fun H_30 locsH_30 hRH_30 hzH_30 hSH_30 => ?_)
                      refine lv_aload_n hx hb dX5_join_146 rfl (lv_at hl 2 rfl) ?_
                      refine m_get hx hb hts in_X5_join hown hK hRH_30 17 (by decide) lk_X5_join_47 rfl rfl dX5_join_147 ?_
                      refine lv_iload_n hx hb dX5_join_150 rfl (lv_at hl 3 rfl) ?_
                      refine m_ald hx hb hK hRH_30 17 rfl (by show 0 ≤ k ∧ k < ((40 : Nat) : Int); omega) dX5_join_151 ?_
                      refine z_top (b := (zSet (σ 17 k) w)) (by rw [zup_t (t := 18) (t' := 17) (by decide), zup_s]) ?_
                      refine z_bipush hx hb dX5_join_152 (by decide +kernel) ?_
                      refine z_icmp_ne (tgt := 162) hx hb dX5_join_154 (by decide) (by omega) (fun c_31 => ?_) (fun c_31 => ?_)
                      · refine lv_aload_n hx hb dX5_join_162 rfl (lv_at hl 2 rfl) ?_
                        refine m_get hx hb hts in_X5_join hown hK hRH_30 20 (by decide) lk_X5_join_56 rfl rfl dX5_join_163 ?_
                        refine lv_iload_n hx hb dX5_join_166 rfl (lv_at hl 3 rfl) ?_
                        refine m_ald hx hb hK hRH_30 20 rfl (by show 0 ≤ k ∧ k < ((40 : Nat) : Int); omega) dX5_join_167 ?_
                        refine z_top (b := σ 20 k) (by rw [zup_t (t := 18) (t' := 20) (by decide), zup_t (t := 17) (t' := 20) (by decide), zup_t (t := 0) (t' := 20) (by decide)]) ?_
                        have ht : zth_join σ k w q = 0 := by unfold zth_join; (repeat' split) <;> omega
                        exact W.iret hx hb hr (z_endM (post := zPost (zth_join σ k w q) (zan_join (zup σ 0 0 0) k w q) (zst_join (zup σ 0 0 0) k w q) (zup σ 0 0 (zth_join σ k w q))) (σ' := (zup (zup (zup σ 0 0 0) 17 k (zSet (σ 17 k) w)) 18 k q)) (v := some (.int (zI (σ 20 k)))) (zPost_ok (a := (σ 20 k)) ht (by unfold zan_join; rw [show zst_join (zup σ 0 0 0) k w q = zjn (zup σ 0 0 0) k w q from if_neg (show ¬ zSet (σ 17 k) w = 7 by omega)]; rw [show zjn (zup σ 0 0 0) k w q = zup (zup (zup σ 0 0 0) 17 k (zSet ((zup σ 0 0 0) 17 k) w)) 18 k q from if_pos (by omega)]; try rfl) (by rw [show zst_join (zup σ 0 0 0) k w q = zjn (zup σ 0 0 0) k w q from if_neg (show ¬ zSet (σ 17 k) w = 7 by omega)]; rw [show zjn (zup σ 0 0 0) k w q = zup (zup (zup σ 0 0 0) 17 k (zSet ((zup σ 0 0 0) 17 k) w)) 18 k q from if_pos (by omega)]; try rfl)) hRH_30 (hzH_30.trans (hzH_26.trans (hzH_24.trans (hzH_15.trans rfl)))) hSH_30) hSH_30.2.2 dX5_join_168
                      · refine lv_aload_n hx hb dX5_join_157 rfl (lv_at hl 2 rfl) ?_
                        refine lv_iload_n hx hb dX5_join_158 rfl (lv_at hl 3 rfl) ?_
                        refine z_wm (As := [.int (zI k)]) (rest := []) ⟨hx, hb, hml, hown, hts⟩ (c_X5_looks l D cI cO cL b ma hM (zup (zup (zup σ 0 0 0) 17 k (zSet (σ 17 k) w)) 18 k q) H_30 hRH_30 k (zInv_18 (zInv_17 (zInv_th hI 0) (zSet_r fk.2.2.1 (by omega))) (by show -1 ≤ q ∧ q < σ 11 0; omega)) (by show 0 ≤ k ∧ k < σ 14 0; omega)) (cwV 1 hts gX5_join_X5_looks rfl rfl rfl (by decide +kernel) ⟨Nat.le_of_ble_eq_true rfl, Nat.le_of_ble_eq_true rfl⟩) hK hSH_30 (m_recv hK hRH_30) rfl hl.1 rfl (Nat.le_of_ble_eq_true rfl) dX5_join_159 ⟨Nat.zero_le _, Nat.zero_le _⟩ (fun rH_32 σH_32 H_32 locsH_32 hpH_32 hRH_32 hzH_32 hSH_32 => ?_)
                        obtain ⟨rfl, rfl⟩ := hpH_32
                        refine lv_aload_n hx hb dX5_join_162 rfl (lv_at hl 2 rfl) ?_
                        refine m_get hx hb hts in_X5_join hown hK hRH_32 20 (by decide) lk_X5_join_56 rfl rfl dX5_join_163 ?_
                        refine lv_iload_n hx hb dX5_join_166 rfl (lv_at hl 3 rfl) ?_
                        refine m_ald hx hb hK hRH_32 20 rfl (by show 0 ≤ k ∧ k < ((40 : Nat) : Int); omega) dX5_join_167 ?_
                        have ht : zth_join σ k w q = 0 := by unfold zth_join; (repeat' split) <;> omega
                        exact W.iret hx hb hr (z_endM (post := zPost (zth_join σ k w q) (zan_join (zup σ 0 0 0) k w q) (zst_join (zup σ 0 0 0) k w q) (zup σ 0 0 (zth_join σ k w q))) (σ' := (zLook (zup (zup (zup σ 0 0 0) 17 k (zSet (σ 17 k) w)) 18 k q) k)) (v := some (.int (zI ((zLook (zup (zup (zup σ 0 0 0) 17 k (zSet (σ 17 k) w)) 18 k q) k) 20 k)))) (zPost_ok (a := ((zLook (zup (zup (zup σ 0 0 0) 17 k (zSet (σ 17 k) w)) 18 k q) k) 20 k)) ht (by unfold zan_join; rw [show zst_join (zup σ 0 0 0) k w q = zLook (zjn (zup σ 0 0 0) k w q) k from if_pos (show zSet (σ 17 k) w = 7 by omega)]; rw [show zjn (zup σ 0 0 0) k w q = zup (zup (zup σ 0 0 0) 17 k (zSet ((zup σ 0 0 0) 17 k) w)) 18 k q from if_pos (by omega)]; try rfl) (by rw [show zst_join (zup σ 0 0 0) k w q = zLook (zjn (zup σ 0 0 0) k w q) k from if_pos (show zSet (σ 17 k) w = 7 by omega)]; rw [show zjn (zup σ 0 0 0) k w q = zup (zup (zup σ 0 0 0) 17 k (zSet ((zup σ 0 0 0) 17 k) w)) 18 k q from if_pos (by omega)]; try rfl)) hRH_32 (hzH_32.trans (hzH_30.trans (hzH_26.trans (hzH_24.trans (hzH_15.trans rfl))))) hSH_32) hSH_32.2.2 dX5_join_168
                  · exact absurd c_25 (by decide)
              · refine lv_aload_n hx hb dX5_join_72 rfl (lv_at hl 1 rfl) ?_
                refine m_get hx hb hts in_X5_join hown hK hRH_15 12 (by decide) lk_X5_join_35 rfl rfl dX5_join_73 ?_
                refine lv_iload_n hx hb dX5_join_76 rfl (lv_at hl 4 rfl) ?_
                refine m_ald hx hb hK hRH_15 12 rfl (by show 0 ≤ q ∧ q < ((8 : Nat) : Int); omega) dX5_join_77 ?_
                refine z_top (b := σ 12 q) (by rw [zup_t (t := 0) (t' := 12) (by decide)]) ?_
                refine lv_aload_n hx hb dX5_join_78 rfl (lv_at hl 1 rfl) ?_
                refine m_get hx hb hts in_X5_join hown hK hRH_15 7 (by decide) lk_X5_join_23 rfl rfl dX5_join_79 ?_
                refine lv_aload_n hx hb dX5_join_82 rfl (lv_at hl 1 rfl) ?_
                refine m_get hx hb hts in_X5_join hown hK hRH_15 15 (by decide) lk_X5_join_41 rfl rfl dX5_join_83 ?_
                refine lv_iload_n hx hb dX5_join_86 rfl (lv_at hl 2 rfl) ?_
                refine m_ald hx hb hK hRH_15 15 rfl (by show 0 ≤ k ∧ k < ((40 : Nat) : Int); omega) dX5_join_87 ?_
                refine z_top (b := σ 15 k) (by rw [zup_t (t := 0) (t' := 15) (by decide)]) ?_
                refine m_ald hx hb hK hRH_15 7 rfl (by show 0 ≤ (σ 15 k) ∧ (σ 15 k) < ((12 : Nat) : Int); omega) dX5_join_88 ?_
                refine z_top (b := σ 7 (σ 15 k)) (by rw [zup_t (t := 0) (t' := 7) (by decide)]) ?_
                refine z_icmp_lt (tgt := 96) hx hb dX5_join_89 (by decide) (by omega) (fun c_33 => ?_) (fun c_33 => ?_)
                · refine z_iconst hx hb dX5_join_96 ?_
                  refine lv_istore (lv' := [(5, .int (zI 0)), (4, .int (zI 1)), (0, .ref b), (1, .int (zI k)), (2, .int (zI w)), (3, .int (zI q))]) hx hb dX5_join_97 hl (by decide) rfl (fun ls hl => ?_)
                  refine lv_aload_n hx hb dX5_join_99 rfl (lv_at hl 2 rfl) ?_
                  refine lv_iload hx hb dX5_join_100 (lv_at hl 0 rfl) ?_
                  refine z_if_eq (tgt := 109) hx hb dX5_join_102 (by decide) (by omega) (fun c_34 => ?_) (fun c_34 => ?_)
                  · refine z_iconst hx hb dX5_join_109 ?_
                    refine m_put hx hb hts in_X5_join hown hK hRH_15 hM hSH_15 0 (by decide) rfl lk_X5_join_59 rfl rfl rfl rfl dX5_join_110 (fun H_35 locsH_35 hRH_35 hzH_35 hSH_35 => ?_)
                    rw [zup_2] at hRH_35
                    refine lv_aload_n hx hb dX5_join_113 rfl (lv_at hl 2 rfl) ?_
                    refine m_get hx hb hts in_X5_join hown hK hRH_35 0 (by decide) lk_X5_join_59 rfl rfl dX5_join_114 ?_
                    refine z_top (b := 2) (by rw [zup_s]) ?_
                    refine z_if_le (tgt := 122) hx hb dX5_join_117 (by decide) (by omega) (fun c_36 => ?_) (fun c_36 => ?_)
                    · exact absurd c_36 (by decide)
                    · refine z_iconst hx hb dX5_join_120 ?_
                      have ht : zth_join σ k w q = 2 := by unfold zth_join; (repeat' split) <;> omega
                      exact W.iret hx hb hr (z_endM (post := zPost (zth_join σ k w q) (zan_join (zup σ 0 0 0) k w q) (zst_join (zup σ 0 0 0) k w q) (zup σ 0 0 (zth_join σ k w q))) (σ' := (zup σ 0 0 2)) (v := some (.int (zI 0))) (zPost_no (a := 0) ht (by decide)) hRH_35 (hzH_35.trans (hzH_15.trans rfl)) hSH_35) hSH_35.2.2 dX5_join_121
                  · exact absurd c_34 (by decide)
                · refine z_iconst hx hb dX5_join_92 ?_
                  refine lv_goto (tgt := 97) hx hb dX5_join_93 (by decide) ?_
                  refine lv_istore (lv' := [(5, .int (zI 1)), (4, .int (zI 1)), (0, .ref b), (1, .int (zI k)), (2, .int (zI w)), (3, .int (zI q))]) hx hb dX5_join_97 hl (by decide) rfl (fun ls hl => ?_)
                  refine lv_aload_n hx hb dX5_join_99 rfl (lv_at hl 2 rfl) ?_
                  refine lv_iload hx hb dX5_join_100 (lv_at hl 0 rfl) ?_
                  refine z_if_eq (tgt := 109) hx hb dX5_join_102 (by decide) (by omega) (fun c_37 => ?_) (fun c_37 => ?_)
                  · exact absurd c_37 (by decide)
                  · refine z_iconst hx hb dX5_join_105 ?_
                    refine lv_goto (tgt := 110) hx hb dX5_join_106 (by decide) ?_
                    refine m_put hx hb hts in_X5_join hown hK hRH_15 hM hSH_15 0 (by decide) rfl lk_X5_join_59 rfl rfl rfl rfl dX5_join_110 (fun H_38 locsH_38 hRH_38 hzH_38 hSH_38 => ?_)
                    rw [zup_2] at hRH_38
                    refine lv_aload_n hx hb dX5_join_113 rfl (lv_at hl 2 rfl) ?_
                    refine m_get hx hb hts in_X5_join hown hK hRH_38 0 (by decide) lk_X5_join_59 rfl rfl dX5_join_114 ?_
                    refine z_top (b := 0) (by rw [zup_s]) ?_
                    refine z_if_le (tgt := 122) hx hb dX5_join_117 (by decide) (by omega) (fun c_39 => ?_) (fun c_39 => ?_)
                    · refine lv_aload_n hx hb dX5_join_122 rfl (lv_at hl 2 rfl) ?_
                      refine m_get hx hb hts in_X5_join hown hK hRH_38 17 (by decide) lk_X5_join_47 rfl rfl dX5_join_123 ?_
                      refine lv_iload_n hx hb dX5_join_126 rfl (lv_at hl 3 rfl) ?_
                      refine lv_dup2_11 hx hb dX5_join_127 rfl rfl ?_
                      refine m_ald hx hb hK hRH_38 17 rfl (by show 0 ≤ k ∧ k < ((40 : Nat) : Int); omega) dX5_join_128 ?_
                      refine z_top (b := σ 17 k) (by rw [zup_t (t := 0) (t' := 17) (by decide)]) ?_
                      refine z_iconst hx hb dX5_join_129 ?_
                      refine lv_iload_n hx hb dX5_join_130 rfl (lv_at hl 4 rfl) ?_
                      refine z_ishl hx hb dX5_join_131 (by omega) ?_
                      refine z_ior hx hb dX5_join_132 (by omega) ?_
                      refine m_ast hx hb hK hRH_38 hM hSH_38 17 rfl (by show 0 ≤ k ∧ k < ((40 : Nat) : Int); omega) dX5_join_133 (fun H_40 locsH_40 hRH_40 hzH_40 hSH_40 => ?_)
                      have hzs := zSet_r (x := σ 17 k) (w := w) fk.2.2.1 (by omega)
                      refine lv_iload_n hx hb dX5_join_134 rfl (lv_at hl 4 rfl) ?_
                      refine z_iconst hx hb dX5_join_135 ?_
                      refine z_icmp_ne (tgt := 146) hx hb dX5_join_136 (by decide) (by omega) (fun c_41 => ?_) (fun c_41 => ?_)
                      · refine lv_aload_n hx hb dX5_join_146 rfl (lv_at hl 2 rfl) ?_
                        refine m_get hx hb hts in_X5_join hown hK hRH_40 17 (by decide) lk_X5_join_47 rfl rfl dX5_join_147 ?_
                        refine lv_iload_n hx hb dX5_join_150 rfl (lv_at hl 3 rfl) ?_
                        refine m_ald hx hb hK hRH_40 17 rfl (by show 0 ≤ k ∧ k < ((40 : Nat) : Int); omega) dX5_join_151 ?_
                        refine z_top (b := (zSet (σ 17 k) w)) (by rw [zup_s]) ?_
                        refine z_bipush hx hb dX5_join_152 (by decide +kernel) ?_
                        refine z_icmp_ne (tgt := 162) hx hb dX5_join_154 (by decide) (by omega) (fun c_42 => ?_) (fun c_42 => ?_)
                        · refine lv_aload_n hx hb dX5_join_162 rfl (lv_at hl 2 rfl) ?_
                          refine m_get hx hb hts in_X5_join hown hK hRH_40 20 (by decide) lk_X5_join_56 rfl rfl dX5_join_163 ?_
                          refine lv_iload_n hx hb dX5_join_166 rfl (lv_at hl 3 rfl) ?_
                          refine m_ald hx hb hK hRH_40 20 rfl (by show 0 ≤ k ∧ k < ((40 : Nat) : Int); omega) dX5_join_167 ?_
                          refine z_top (b := σ 20 k) (by rw [zup_t (t := 17) (t' := 20) (by decide), zup_t (t := 0) (t' := 20) (by decide)]) ?_
                          have ht : zth_join σ k w q = 0 := by unfold zth_join; (repeat' split) <;> omega
                          exact W.iret hx hb hr (z_endM (post := zPost (zth_join σ k w q) (zan_join (zup σ 0 0 0) k w q) (zst_join (zup σ 0 0 0) k w q) (zup σ 0 0 (zth_join σ k w q))) (σ' := (zup (zup σ 0 0 0) 17 k (zSet (σ 17 k) w))) (v := some (.int (zI (σ 20 k)))) (zPost_ok (a := (σ 20 k)) ht (by unfold zan_join; rw [show zst_join (zup σ 0 0 0) k w q = zjn (zup σ 0 0 0) k w q from if_neg (show ¬ zSet (σ 17 k) w = 7 by omega)]; rw [show zjn (zup σ 0 0 0) k w q = zup (zup σ 0 0 0) 17 k (zSet ((zup σ 0 0 0) 17 k) w) from if_neg (by omega)]; try rfl) (by rw [show zst_join (zup σ 0 0 0) k w q = zjn (zup σ 0 0 0) k w q from if_neg (show ¬ zSet (σ 17 k) w = 7 by omega)]; rw [show zjn (zup σ 0 0 0) k w q = zup (zup σ 0 0 0) 17 k (zSet ((zup σ 0 0 0) 17 k) w) from if_neg (by omega)]; try rfl)) hRH_40 (hzH_40.trans (hzH_38.trans (hzH_15.trans rfl))) hSH_40) hSH_40.2.2 dX5_join_168
                        · refine lv_aload_n hx hb dX5_join_157 rfl (lv_at hl 2 rfl) ?_
                          refine lv_iload_n hx hb dX5_join_158 rfl (lv_at hl 3 rfl) ?_
                          refine z_wm (As := [.int (zI k)]) (rest := []) ⟨hx, hb, hml, hown, hts⟩ (c_X5_looks l D cI cO cL b ma hM (zup (zup σ 0 0 0) 17 k (zSet (σ 17 k) w)) H_40 hRH_40 k (zInv_17 (zInv_th hI 0) (zSet_r fk.2.2.1 (by omega))) (by show 0 ≤ k ∧ k < σ 14 0; omega)) (cwV 1 hts gX5_join_X5_looks rfl rfl rfl (by decide +kernel) ⟨Nat.le_of_ble_eq_true rfl, Nat.le_of_ble_eq_true rfl⟩) hK hSH_40 (m_recv hK hRH_40) rfl hl.1 rfl (Nat.le_of_ble_eq_true rfl) dX5_join_159 ⟨Nat.zero_le _, Nat.zero_le _⟩ (fun rH_43 σH_43 H_43 locsH_43 hpH_43 hRH_43 hzH_43 hSH_43 => ?_)
                          obtain ⟨rfl, rfl⟩ := hpH_43
                          refine lv_aload_n hx hb dX5_join_162 rfl (lv_at hl 2 rfl) ?_
                          refine m_get hx hb hts in_X5_join hown hK hRH_43 20 (by decide) lk_X5_join_56 rfl rfl dX5_join_163 ?_
                          refine lv_iload_n hx hb dX5_join_166 rfl (lv_at hl 3 rfl) ?_
                          refine m_ald hx hb hK hRH_43 20 rfl (by show 0 ≤ k ∧ k < ((40 : Nat) : Int); omega) dX5_join_167 ?_
                          have ht : zth_join σ k w q = 0 := by unfold zth_join; (repeat' split) <;> omega
                          exact W.iret hx hb hr (z_endM (post := zPost (zth_join σ k w q) (zan_join (zup σ 0 0 0) k w q) (zst_join (zup σ 0 0 0) k w q) (zup σ 0 0 (zth_join σ k w q))) (σ' := (zLook (zup (zup σ 0 0 0) 17 k (zSet (σ 17 k) w)) k)) (v := some (.int (zI ((zLook (zup (zup σ 0 0 0) 17 k (zSet (σ 17 k) w)) k) 20 k)))) (zPost_ok (a := ((zLook (zup (zup σ 0 0 0) 17 k (zSet (σ 17 k) w)) k) 20 k)) ht (by unfold zan_join; rw [show zst_join (zup σ 0 0 0) k w q = zLook (zjn (zup σ 0 0 0) k w q) k from if_pos (show zSet (σ 17 k) w = 7 by omega)]; rw [show zjn (zup σ 0 0 0) k w q = zup (zup σ 0 0 0) 17 k (zSet ((zup σ 0 0 0) 17 k) w) from if_neg (by omega)]; try rfl) (by rw [show zst_join (zup σ 0 0 0) k w q = zLook (zjn (zup σ 0 0 0) k w q) k from if_pos (show zSet (σ 17 k) w = 7 by omega)]; rw [show zjn (zup σ 0 0 0) k w q = zup (zup σ 0 0 0) 17 k (zSet ((zup σ 0 0 0) 17 k) w) from if_neg (by omega)]; try rfl)) hRH_43 (hzH_43.trans (hzH_40.trans (hzH_38.trans (hzH_15.trans rfl)))) hSH_43) hSH_43.2.2 dX5_join_168
                      · refine lv_aload_n hx hb dX5_join_139 rfl (lv_at hl 2 rfl) ?_
                        refine m_get hx hb hts in_X5_join hown hK hRH_40 18 (by decide) lk_X5_join_50 rfl rfl dX5_join_140 ?_
                        refine lv_iload_n hx hb dX5_join_143 rfl (lv_at hl 3 rfl) ?_
                        refine lv_iload_n hx hb dX5_join_144 rfl (lv_at hl 5 rfl) ?_
                        refine m_ast hx hb hK hRH_40 hM hSH_40 18 rfl (by show 0 ≤ k ∧ k < ((40 : Nat) : Int); omega) dX5_join_145 (fun H_44 locsH_44 hRH_44 hzH_44 hSH_44 => ?_)
                        refine lv_aload_n hx hb dX5_join_146 rfl (lv_at hl 2 rfl) ?_
                        refine m_get hx hb hts in_X5_join hown hK hRH_44 17 (by decide) lk_X5_join_47 rfl rfl dX5_join_147 ?_
                        refine lv_iload_n hx hb dX5_join_150 rfl (lv_at hl 3 rfl) ?_
                        refine m_ald hx hb hK hRH_44 17 rfl (by show 0 ≤ k ∧ k < ((40 : Nat) : Int); omega) dX5_join_151 ?_
                        refine z_top (b := (zSet (σ 17 k) w)) (by rw [zup_t (t := 18) (t' := 17) (by decide), zup_s]) ?_
                        refine z_bipush hx hb dX5_join_152 (by decide +kernel) ?_
                        refine z_icmp_ne (tgt := 162) hx hb dX5_join_154 (by decide) (by omega) (fun c_45 => ?_) (fun c_45 => ?_)
                        · refine lv_aload_n hx hb dX5_join_162 rfl (lv_at hl 2 rfl) ?_
                          refine m_get hx hb hts in_X5_join hown hK hRH_44 20 (by decide) lk_X5_join_56 rfl rfl dX5_join_163 ?_
                          refine lv_iload_n hx hb dX5_join_166 rfl (lv_at hl 3 rfl) ?_
                          refine m_ald hx hb hK hRH_44 20 rfl (by show 0 ≤ k ∧ k < ((40 : Nat) : Int); omega) dX5_join_167 ?_
                          refine z_top (b := σ 20 k) (by rw [zup_t (t := 18) (t' := 20) (by decide), zup_t (t := 17) (t' := 20) (by decide), zup_t (t := 0) (t' := 20) (by decide)]) ?_
                          have ht : zth_join σ k w q = 0 := by unfold zth_join; (repeat' split) <;> omega
                          exact W.iret hx hb hr (z_endM (post := zPost (zth_join σ k w q) (zan_join (zup σ 0 0 0) k w q) (zst_join (zup σ 0 0 0) k w q) (zup σ 0 0 (zth_join σ k w q))) (σ' := (zup (zup (zup σ 0 0 0) 17 k (zSet (σ 17 k) w)) 18 k q)) (v := some (.int (zI (σ 20 k)))) (zPost_ok (a := (σ 20 k)) ht (by unfold zan_join; rw [show zst_join (zup σ 0 0 0) k w q = zjn (zup σ 0 0 0) k w q from if_neg (show ¬ zSet (σ 17 k) w = 7 by omega)]; rw [show zjn (zup σ 0 0 0) k w q = zup (zup (zup σ 0 0 0) 17 k (zSet ((zup σ 0 0 0) 17 k) w)) 18 k q from if_pos (by omega)]; try rfl) (by rw [show zst_join (zup σ 0 0 0) k w q = zjn (zup σ 0 0 0) k w q from if_neg (show ¬ zSet (σ 17 k) w = 7 by omega)]; rw [show zjn (zup σ 0 0 0) k w q = zup (zup (zup σ 0 0 0) 17 k (zSet ((zup σ 0 0 0) 17 k) w)) 18 k q from if_pos (by omega)]; try rfl)) hRH_44 (hzH_44.trans (hzH_40.trans (hzH_38.trans (hzH_15.trans rfl)))) hSH_44) hSH_44.2.2 dX5_join_168
                        · refine lv_aload_n hx hb dX5_join_157 rfl (lv_at hl 2 rfl) ?_
                          refine lv_iload_n hx hb dX5_join_158 rfl (lv_at hl 3 rfl) ?_
                          refine z_wm (As := [.int (zI k)]) (rest := []) ⟨hx, hb, hml, hown, hts⟩ (c_X5_looks l D cI cO cL b ma hM (zup (zup (zup σ 0 0 0) 17 k (zSet (σ 17 k) w)) 18 k q) H_44 hRH_44 k (zInv_18 (zInv_17 (zInv_th hI 0) (zSet_r fk.2.2.1 (by omega))) (by show -1 ≤ q ∧ q < σ 11 0; omega)) (by show 0 ≤ k ∧ k < σ 14 0; omega)) (cwV 1 hts gX5_join_X5_looks rfl rfl rfl (by decide +kernel) ⟨Nat.le_of_ble_eq_true rfl, Nat.le_of_ble_eq_true rfl⟩) hK hSH_44 (m_recv hK hRH_44) rfl hl.1 rfl (Nat.le_of_ble_eq_true rfl) dX5_join_159 ⟨Nat.zero_le _, Nat.zero_le _⟩ (fun rH_46 σH_46 H_46 locsH_46 hpH_46 hRH_46 hzH_46 hSH_46 => ?_)
                          obtain ⟨rfl, rfl⟩ := hpH_46
                          refine lv_aload_n hx hb dX5_join_162 rfl (lv_at hl 2 rfl) ?_
                          refine m_get hx hb hts in_X5_join hown hK hRH_46 20 (by decide) lk_X5_join_56 rfl rfl dX5_join_163 ?_
                          refine lv_iload_n hx hb dX5_join_166 rfl (lv_at hl 3 rfl) ?_
                          refine m_ald hx hb hK hRH_46 20 rfl (by show 0 ≤ k ∧ k < ((40 : Nat) : Int); omega) dX5_join_167 ?_
                          have ht : zth_join σ k w q = 0 := by unfold zth_join; (repeat' split) <;> omega
                          exact W.iret hx hb hr (z_endM (post := zPost (zth_join σ k w q) (zan_join (zup σ 0 0 0) k w q) (zst_join (zup σ 0 0 0) k w q) (zup σ 0 0 (zth_join σ k w q))) (σ' := (zLook (zup (zup (zup σ 0 0 0) 17 k (zSet (σ 17 k) w)) 18 k q) k)) (v := some (.int (zI ((zLook (zup (zup (zup σ 0 0 0) 17 k (zSet (σ 17 k) w)) 18 k q) k) 20 k)))) (zPost_ok (a := ((zLook (zup (zup (zup σ 0 0 0) 17 k (zSet (σ 17 k) w)) 18 k q) k) 20 k)) ht (by unfold zan_join; rw [show zst_join (zup σ 0 0 0) k w q = zLook (zjn (zup σ 0 0 0) k w q) k from if_pos (show zSet (σ 17 k) w = 7 by omega)]; rw [show zjn (zup σ 0 0 0) k w q = zup (zup (zup σ 0 0 0) 17 k (zSet ((zup σ 0 0 0) 17 k) w)) 18 k q from if_pos (by omega)]; try rfl) (by rw [show zst_join (zup σ 0 0 0) k w q = zLook (zjn (zup σ 0 0 0) k w q) k from if_pos (show zSet (σ 17 k) w = 7 by omega)]; rw [show zjn (zup σ 0 0 0) k w q = zup (zup (zup σ 0 0 0) 17 k (zSet ((zup σ 0 0 0) 17 k) w)) 18 k q from if_pos (by omega)]; try rfl)) hRH_46 (hzH_46.trans (hzH_44.trans (hzH_40.trans (hzH_38.trans (hzH_15.trans rfl))))) hSH_46) hSH_46.2.2 dX5_join_168
                    · exact absurd c_39 (by decide)
      · refine lv_aload_n hx hb dX5_join_22 rfl (lv_at hl 0 rfl) ?_
        refine lv_iload_n hx hb dX5_join_23 rfl (lv_at hl 3 rfl) ?_
        refine z_cv (As := [.int (zI q)]) (rest := []) ⟨hx, hb, hml, hown, hts⟩ (c_X5_isPilot l D cI cO cL b ma σ s.heap hR q (by omega) (by omega)) (cwV 1 hts gX5_join_X5_isPilot rfl rfl rfl (by decide +kernel) ⟨Nat.le_of_ble_eq_true rfl, Nat.le_of_ble_eq_true rfl⟩) (zKK_mv D cI cO cL) (fun U _ hv => va_K.moved hv hK) (m_recv hK hR) rfl hl.1 rfl (Nat.le_of_ble_eq_true rfl) dX5_join_24 ⟨Nat.zero_le _, Nat.zero_le _⟩ (fun r_47 hr_47 => ?_)
        rw [hr_47]
        refine z_ifb_eq (tgt := 34) hx hb dX5_join_27 (by decide) (fun c_48 => ?_) (fun c_48 => ?_)
        · refine z_iconst hx hb dX5_join_34 ?_
          refine lv_istore (lv' := [(4, .int (zI 0)), (0, .ref b), (1, .int (zI k)), (2, .int (zI w)), (3, .int (zI q))]) hx hb dX5_join_35 hl (by decide) rfl (fun ls hl => ?_)
          refine lv_aload_n hx hb dX5_join_37 rfl (lv_at hl 1 rfl) ?_
          refine lv_iload hx hb dX5_join_38 (lv_at hl 0 rfl) ?_
          refine z_if_eq (tgt := 47) hx hb dX5_join_40 (by decide) (by omega) (fun c_49 => ?_) (fun c_49 => ?_)
          · refine z_iconst hx hb dX5_join_47 ?_
            refine m_put hx hb hts in_X5_join hown hK hR hM va_S.rf 0 (by decide) rfl lk_X5_join_59 rfl rfl rfl rfl dX5_join_48 (fun H_50 locsH_50 hRH_50 hzH_50 hSH_50 => ?_)
            refine lv_aload_n hx hb dX5_join_51 rfl (lv_at hl 1 rfl) ?_
            refine m_get hx hb hts in_X5_join hown hK hRH_50 0 (by decide) lk_X5_join_59 rfl rfl dX5_join_52 ?_
            refine z_top (b := 1) (by rw [zup_s]) ?_
            refine z_if_ne (tgt := 113) hx hb dX5_join_55 (by decide) (by omega) (fun c_51 => ?_) (fun c_51 => ?_)
            · refine lv_aload_n hx hb dX5_join_113 rfl (lv_at hl 1 rfl) ?_
              refine m_get hx hb hts in_X5_join hown hK hRH_50 0 (by decide) lk_X5_join_59 rfl rfl dX5_join_114 ?_
              refine z_top (b := 1) (by rw [zup_s]) ?_
              refine z_if_le (tgt := 122) hx hb dX5_join_117 (by decide) (by omega) (fun c_52 => ?_) (fun c_52 => ?_)
              · exact absurd c_52 (by decide)
              · refine z_iconst hx hb dX5_join_120 ?_
                have ht : zth_join σ k w q = 1 := by unfold zth_join; (repeat' split) <;> omega
                exact W.iret hx hb hr (z_endM (post := zPost (zth_join σ k w q) (zan_join (zup σ 0 0 0) k w q) (zst_join (zup σ 0 0 0) k w q) (zup σ 0 0 (zth_join σ k w q))) (σ' := (zup σ 0 0 1)) (v := some (.int (zI 0))) (zPost_no (a := 0) ht (by decide)) hRH_50 (hzH_50.trans rfl) hSH_50) hSH_50.2.2 dX5_join_121
            · exact absurd c_51 (by decide)
          · exact absurd c_49 (by decide)
        · have fq := hI.p (i := q) (by omega)
          refine z_iconst hx hb dX5_join_30 ?_
          refine lv_goto (tgt := 35) hx hb dX5_join_31 (by decide) ?_
          refine lv_istore (lv' := [(4, .int (zI 1)), (0, .ref b), (1, .int (zI k)), (2, .int (zI w)), (3, .int (zI q))]) hx hb dX5_join_35 hl (by decide) rfl (fun ls hl => ?_)
          refine lv_aload_n hx hb dX5_join_37 rfl (lv_at hl 1 rfl) ?_
          refine lv_iload hx hb dX5_join_38 (lv_at hl 0 rfl) ?_
          refine z_if_eq (tgt := 47) hx hb dX5_join_40 (by decide) (by omega) (fun c_53 => ?_) (fun c_53 => ?_)
          · exact absurd c_53 (by decide)
          · refine z_iconst hx hb dX5_join_43 ?_
            refine lv_goto (tgt := 48) hx hb dX5_join_44 (by decide) ?_
            refine m_put hx hb hts in_X5_join hown hK hR hM va_S.rf 0 (by decide) rfl lk_X5_join_59 rfl rfl rfl rfl dX5_join_48 (fun H_54 locsH_54 hRH_54 hzH_54 hSH_54 => ?_)
            refine lv_aload_n hx hb dX5_join_51 rfl (lv_at hl 1 rfl) ?_
            refine m_get hx hb hts in_X5_join hown hK hRH_54 0 (by decide) lk_X5_join_59 rfl rfl dX5_join_52 ?_
            refine z_top (b := 0) (by rw [zup_s]) ?_
            refine z_if_ne (tgt := 113) hx hb dX5_join_55 (by decide) (by omega) (fun c_55 => ?_) (fun c_55 => ?_)
            · exact absurd c_55 (by decide)
            · refine lv_aload_n hx hb dX5_join_58 rfl (lv_at hl 1 rfl) ?_
              refine lv_iload_n hx hb dX5_join_59 rfl (lv_at hl 2 rfl) ?_
              refine lv_iload_n hx hb dX5_join_60 rfl (lv_at hl 3 rfl) ?_
              refine z_cv (As := [.int (zI k), .int (zI w)]) (rest := []) ⟨hx, hb, hml, hown, hts⟩ (c_X5_isIn l D cI cO cL b ma (zup σ 0 0 0) H_54 hRH_54 k w (zInv_th hI 0) (by show 0 ≤ k ∧ k < σ 14 0; omega) (by show 0 ≤ w ∧ w ≤ 2; omega)) (cwV 2 hts gX5_join_X5_isIn rfl rfl rfl (by decide +kernel) ⟨Nat.le_of_ble_eq_true rfl, Nat.le_of_ble_eq_true rfl⟩) (zKK_mv D cI cO cL) (fun U _ hv => va_K.moved hv hK) (m_recv hK hRH_54) rfl hl.1 rfl (Nat.le_of_ble_eq_true rfl) dX5_join_61 ⟨Nat.zero_le _, Nat.zero_le _⟩ (fun r_56 hr_56 => ?_)
              rw [hr_56]
              refine z_top (a := bI (zBit ((zup σ 0 0 0) 17 k) w = 1)) (b := bI (zBit (σ 17 k) w = 1)) rfl ?_
              refine z_ifb_ne (tgt := 96) hx hb dX5_join_64 (by decide) (fun c_57 => ?_) (fun c_57 => ?_)
              · refine z_iconst hx hb dX5_join_96 ?_
                refine lv_istore (lv' := [(5, .int (zI 0)), (4, .int (zI 1)), (0, .ref b), (1, .int (zI k)), (2, .int (zI w)), (3, .int (zI q))]) hx hb dX5_join_97 hl (by decide) rfl (fun ls hl => ?_)
                refine lv_aload_n hx hb dX5_join_99 rfl (lv_at hl 2 rfl) ?_
                refine lv_iload hx hb dX5_join_100 (lv_at hl 0 rfl) ?_
                refine z_if_eq (tgt := 109) hx hb dX5_join_102 (by decide) (by omega) (fun c_58 => ?_) (fun c_58 => ?_)
                · refine z_iconst hx hb dX5_join_109 ?_
                  refine m_put hx hb hts in_X5_join hown hK hRH_54 hM hSH_54 0 (by decide) rfl lk_X5_join_59 rfl rfl rfl rfl dX5_join_110 (fun H_59 locsH_59 hRH_59 hzH_59 hSH_59 => ?_)
                  rw [zup_2] at hRH_59
                  refine lv_aload_n hx hb dX5_join_113 rfl (lv_at hl 2 rfl) ?_
                  refine m_get hx hb hts in_X5_join hown hK hRH_59 0 (by decide) lk_X5_join_59 rfl rfl dX5_join_114 ?_
                  refine z_top (b := 2) (by rw [zup_s]) ?_
                  refine z_if_le (tgt := 122) hx hb dX5_join_117 (by decide) (by omega) (fun c_60 => ?_) (fun c_60 => ?_)
                  · exact absurd c_60 (by decide)
                  · refine z_iconst hx hb dX5_join_120 ?_
                    have ht : zth_join σ k w q = 2 := by unfold zth_join; (repeat' split) <;> omega
                    exact W.iret hx hb hr (z_endM (post := zPost (zth_join σ k w q) (zan_join (zup σ 0 0 0) k w q) (zst_join (zup σ 0 0 0) k w q) (zup σ 0 0 (zth_join σ k w q))) (σ' := (zup σ 0 0 2)) (v := some (.int (zI 0))) (zPost_no (a := 0) ht (by decide)) hRH_59 (hzH_59.trans (hzH_54.trans rfl)) hSH_59) hSH_59.2.2 dX5_join_121
                · exact absurd c_58 (by decide)
              · refine lv_iload_n hx hb dX5_join_67 rfl (lv_at hl 3 rfl) ?_
                refine z_iconst hx hb dX5_join_68 ?_
                refine z_icmp_ne (tgt := 92) hx hb dX5_join_69 (by decide) (by omega) (fun c_61 => ?_) (fun c_61 => ?_)
                · refine z_iconst hx hb dX5_join_92 ?_
                  refine lv_goto (tgt := 97) hx hb dX5_join_93 (by decide) ?_
                  refine lv_istore (lv' := [(5, .int (zI 1)), (4, .int (zI 1)), (0, .ref b), (1, .int (zI k)), (2, .int (zI w)), (3, .int (zI q))]) hx hb dX5_join_97 hl (by decide) rfl (fun ls hl => ?_)
                  refine lv_aload_n hx hb dX5_join_99 rfl (lv_at hl 2 rfl) ?_
                  refine lv_iload hx hb dX5_join_100 (lv_at hl 0 rfl) ?_
                  refine z_if_eq (tgt := 109) hx hb dX5_join_102 (by decide) (by omega) (fun c_62 => ?_) (fun c_62 => ?_)
                  · exact absurd c_62 (by decide)
                  · refine z_iconst hx hb dX5_join_105 ?_
                    refine lv_goto (tgt := 110) hx hb dX5_join_106 (by decide) ?_
                    refine m_put hx hb hts in_X5_join hown hK hRH_54 hM hSH_54 0 (by decide) rfl lk_X5_join_59 rfl rfl rfl rfl dX5_join_110 (fun H_63 locsH_63 hRH_63 hzH_63 hSH_63 => ?_)
                    rw [zup_2] at hRH_63
                    refine lv_aload_n hx hb dX5_join_113 rfl (lv_at hl 2 rfl) ?_
                    refine m_get hx hb hts in_X5_join hown hK hRH_63 0 (by decide) lk_X5_join_59 rfl rfl dX5_join_114 ?_
                    refine z_top (b := 0) (by rw [zup_s]) ?_
                    refine z_if_le (tgt := 122) hx hb dX5_join_117 (by decide) (by omega) (fun c_64 => ?_) (fun c_64 => ?_)
                    · refine lv_aload_n hx hb dX5_join_122 rfl (lv_at hl 2 rfl) ?_
                      refine m_get hx hb hts in_X5_join hown hK hRH_63 17 (by decide) lk_X5_join_47 rfl rfl dX5_join_123 ?_
                      refine lv_iload_n hx hb dX5_join_126 rfl (lv_at hl 3 rfl) ?_
                      refine lv_dup2_11 hx hb dX5_join_127 rfl rfl ?_
                      refine m_ald hx hb hK hRH_63 17 rfl (by show 0 ≤ k ∧ k < ((40 : Nat) : Int); omega) dX5_join_128 ?_
                      refine z_top (b := σ 17 k) (by rw [zup_t (t := 0) (t' := 17) (by decide)]) ?_
                      refine z_iconst hx hb dX5_join_129 ?_
                      refine lv_iload_n hx hb dX5_join_130 rfl (lv_at hl 4 rfl) ?_
                      refine z_ishl hx hb dX5_join_131 (by omega) ?_
                      refine z_ior hx hb dX5_join_132 (by omega) ?_
                      refine m_ast hx hb hK hRH_63 hM hSH_63 17 rfl (by show 0 ≤ k ∧ k < ((40 : Nat) : Int); omega) dX5_join_133 (fun H_65 locsH_65 hRH_65 hzH_65 hSH_65 => ?_)
                      have hzs := zSet_r (x := σ 17 k) (w := w) fk.2.2.1 (by omega)
                      refine lv_iload_n hx hb dX5_join_134 rfl (lv_at hl 4 rfl) ?_
                      refine z_iconst hx hb dX5_join_135 ?_
                      refine z_icmp_ne (tgt := 146) hx hb dX5_join_136 (by decide) (by omega) (fun c_66 => ?_) (fun c_66 => ?_)
                      · refine lv_aload_n hx hb dX5_join_146 rfl (lv_at hl 2 rfl) ?_
                        refine m_get hx hb hts in_X5_join hown hK hRH_65 17 (by decide) lk_X5_join_47 rfl rfl dX5_join_147 ?_
                        refine lv_iload_n hx hb dX5_join_150 rfl (lv_at hl 3 rfl) ?_
                        refine m_ald hx hb hK hRH_65 17 rfl (by show 0 ≤ k ∧ k < ((40 : Nat) : Int); omega) dX5_join_151 ?_
                        refine z_top (b := (zSet (σ 17 k) w)) (by rw [zup_s]) ?_
                        refine z_bipush hx hb dX5_join_152 (by decide +kernel) ?_
                        refine z_icmp_ne (tgt := 162) hx hb dX5_join_154 (by decide) (by omega) (fun c_67 => ?_) (fun c_67 => ?_)
                        · refine lv_aload_n hx hb dX5_join_162 rfl (lv_at hl 2 rfl) ?_
                          refine m_get hx hb hts in_X5_join hown hK hRH_65 20 (by decide) lk_X5_join_56 rfl rfl dX5_join_163 ?_
                          refine lv_iload_n hx hb dX5_join_166 rfl (lv_at hl 3 rfl) ?_
                          refine m_ald hx hb hK hRH_65 20 rfl (by show 0 ≤ k ∧ k < ((40 : Nat) : Int); omega) dX5_join_167 ?_
                          refine z_top (b := σ 20 k) (by rw [zup_t (t := 17) (t' := 20) (by decide), zup_t (t := 0) (t' := 20) (by decide)]) ?_
                          have ht : zth_join σ k w q = 0 := by unfold zth_join; (repeat' split) <;> omega
                          exact W.iret hx hb hr (z_endM (post := zPost (zth_join σ k w q) (zan_join (zup σ 0 0 0) k w q) (zst_join (zup σ 0 0 0) k w q) (zup σ 0 0 (zth_join σ k w q))) (σ' := (zup (zup σ 0 0 0) 17 k (zSet (σ 17 k) w))) (v := some (.int (zI (σ 20 k)))) (zPost_ok (a := (σ 20 k)) ht (by unfold zan_join; rw [show zst_join (zup σ 0 0 0) k w q = zjn (zup σ 0 0 0) k w q from if_neg (show ¬ zSet (σ 17 k) w = 7 by omega)]; rw [show zjn (zup σ 0 0 0) k w q = zup (zup σ 0 0 0) 17 k (zSet ((zup σ 0 0 0) 17 k) w) from if_neg (by omega)]; try rfl) (by rw [show zst_join (zup σ 0 0 0) k w q = zjn (zup σ 0 0 0) k w q from if_neg (show ¬ zSet (σ 17 k) w = 7 by omega)]; rw [show zjn (zup σ 0 0 0) k w q = zup (zup σ 0 0 0) 17 k (zSet ((zup σ 0 0 0) 17 k) w) from if_neg (by omega)]; try rfl)) hRH_65 (hzH_65.trans (hzH_63.trans (hzH_54.trans rfl))) hSH_65) hSH_65.2.2 dX5_join_168
                        · refine lv_aload_n hx hb dX5_join_157 rfl (lv_at hl 2 rfl) ?_
                          refine lv_iload_n hx hb dX5_join_158 rfl (lv_at hl 3 rfl) ?_
                          refine z_wm (As := [.int (zI k)]) (rest := []) ⟨hx, hb, hml, hown, hts⟩ (c_X5_looks l D cI cO cL b ma hM (zup (zup σ 0 0 0) 17 k (zSet (σ 17 k) w)) H_65 hRH_65 k (zInv_17 (zInv_th hI 0) (zSet_r fk.2.2.1 (by omega))) (by show 0 ≤ k ∧ k < σ 14 0; omega)) (cwV 1 hts gX5_join_X5_looks rfl rfl rfl (by decide +kernel) ⟨Nat.le_of_ble_eq_true rfl, Nat.le_of_ble_eq_true rfl⟩) hK hSH_65 (m_recv hK hRH_65) rfl hl.1 rfl (Nat.le_of_ble_eq_true rfl) dX5_join_159 ⟨Nat.zero_le _, Nat.zero_le _⟩ (fun rH_68 σH_68 H_68 locsH_68 hpH_68 hRH_68 hzH_68 hSH_68 => ?_)
                          obtain ⟨rfl, rfl⟩ := hpH_68
                          refine lv_aload_n hx hb dX5_join_162 rfl (lv_at hl 2 rfl) ?_
                          refine m_get hx hb hts in_X5_join hown hK hRH_68 20 (by decide) lk_X5_join_56 rfl rfl dX5_join_163 ?_
                          refine lv_iload_n hx hb dX5_join_166 rfl (lv_at hl 3 rfl) ?_
                          refine m_ald hx hb hK hRH_68 20 rfl (by show 0 ≤ k ∧ k < ((40 : Nat) : Int); omega) dX5_join_167 ?_
                          have ht : zth_join σ k w q = 0 := by unfold zth_join; (repeat' split) <;> omega
                          exact W.iret hx hb hr (z_endM (post := zPost (zth_join σ k w q) (zan_join (zup σ 0 0 0) k w q) (zst_join (zup σ 0 0 0) k w q) (zup σ 0 0 (zth_join σ k w q))) (σ' := (zLook (zup (zup σ 0 0 0) 17 k (zSet (σ 17 k) w)) k)) (v := some (.int (zI ((zLook (zup (zup σ 0 0 0) 17 k (zSet (σ 17 k) w)) k) 20 k)))) (zPost_ok (a := ((zLook (zup (zup σ 0 0 0) 17 k (zSet (σ 17 k) w)) k) 20 k)) ht (by unfold zan_join; rw [show zst_join (zup σ 0 0 0) k w q = zLook (zjn (zup σ 0 0 0) k w q) k from if_pos (show zSet (σ 17 k) w = 7 by omega)]; rw [show zjn (zup σ 0 0 0) k w q = zup (zup σ 0 0 0) 17 k (zSet ((zup σ 0 0 0) 17 k) w) from if_neg (by omega)]; try rfl) (by rw [show zst_join (zup σ 0 0 0) k w q = zLook (zjn (zup σ 0 0 0) k w q) k from if_pos (show zSet (σ 17 k) w = 7 by omega)]; rw [show zjn (zup σ 0 0 0) k w q = zup (zup σ 0 0 0) 17 k (zSet ((zup σ 0 0 0) 17 k) w) from if_neg (by omega)]; try rfl)) hRH_68 (hzH_68.trans (hzH_65.trans (hzH_63.trans (hzH_54.trans rfl)))) hSH_68) hSH_68.2.2 dX5_join_168
                      · refine lv_aload_n hx hb dX5_join_139 rfl (lv_at hl 2 rfl) ?_
                        refine m_get hx hb hts in_X5_join hown hK hRH_65 18 (by decide) lk_X5_join_50 rfl rfl dX5_join_140 ?_
                        refine lv_iload_n hx hb dX5_join_143 rfl (lv_at hl 3 rfl) ?_
                        refine lv_iload_n hx hb dX5_join_144 rfl (lv_at hl 5 rfl) ?_
                        refine m_ast hx hb hK hRH_65 hM hSH_65 18 rfl (by show 0 ≤ k ∧ k < ((40 : Nat) : Int); omega) dX5_join_145 (fun H_69 locsH_69 hRH_69 hzH_69 hSH_69 => ?_)
                        refine lv_aload_n hx hb dX5_join_146 rfl (lv_at hl 2 rfl) ?_
                        refine m_get hx hb hts in_X5_join hown hK hRH_69 17 (by decide) lk_X5_join_47 rfl rfl dX5_join_147 ?_
                        refine lv_iload_n hx hb dX5_join_150 rfl (lv_at hl 3 rfl) ?_
                        refine m_ald hx hb hK hRH_69 17 rfl (by show 0 ≤ k ∧ k < ((40 : Nat) : Int); omega) dX5_join_151 ?_
                        refine z_top (b := (zSet (σ 17 k) w)) (by rw [zup_t (t := 18) (t' := 17) (by decide), zup_s]) ?_
                        refine z_bipush hx hb dX5_join_152 (by decide +kernel) ?_
                        refine z_icmp_ne (tgt := 162) hx hb dX5_join_154 (by decide) (by omega) (fun c_70 => ?_) (fun c_70 => ?_)
                        · refine lv_aload_n hx hb dX5_join_162 rfl (lv_at hl 2 rfl) ?_
                          refine m_get hx hb hts in_X5_join hown hK hRH_69 20 (by decide) lk_X5_join_56 rfl rfl dX5_join_163 ?_
                          refine lv_iload_n hx hb dX5_join_166 rfl (lv_at hl 3 rfl) ?_
                          refine m_ald hx hb hK hRH_69 20 rfl (by show 0 ≤ k ∧ k < ((40 : Nat) : Int); omega) dX5_join_167 ?_
                          refine z_top (b := σ 20 k) (by rw [zup_t (t := 18) (t' := 20) (by decide), zup_t (t := 17) (t' := 20) (by decide), zup_t (t := 0) (t' := 20) (by decide)]) ?_
                          have ht : zth_join σ k w q = 0 := by unfold zth_join; (repeat' split) <;> omega
                          exact W.iret hx hb hr (z_endM (post := zPost (zth_join σ k w q) (zan_join (zup σ 0 0 0) k w q) (zst_join (zup σ 0 0 0) k w q) (zup σ 0 0 (zth_join σ k w q))) (σ' := (zup (zup (zup σ 0 0 0) 17 k (zSet (σ 17 k) w)) 18 k q)) (v := some (.int (zI (σ 20 k)))) (zPost_ok (a := (σ 20 k)) ht (by unfold zan_join; rw [show zst_join (zup σ 0 0 0) k w q = zjn (zup σ 0 0 0) k w q from if_neg (show ¬ zSet (σ 17 k) w = 7 by omega)]; rw [show zjn (zup σ 0 0 0) k w q = zup (zup (zup σ 0 0 0) 17 k (zSet ((zup σ 0 0 0) 17 k) w)) 18 k q from if_pos (by omega)]; try rfl) (by rw [show zst_join (zup σ 0 0 0) k w q = zjn (zup σ 0 0 0) k w q from if_neg (show ¬ zSet (σ 17 k) w = 7 by omega)]; rw [show zjn (zup σ 0 0 0) k w q = zup (zup (zup σ 0 0 0) 17 k (zSet ((zup σ 0 0 0) 17 k) w)) 18 k q from if_pos (by omega)]; try rfl)) hRH_69 (hzH_69.trans (hzH_65.trans (hzH_63.trans (hzH_54.trans rfl)))) hSH_69) hSH_69.2.2 dX5_join_168
                        · refine lv_aload_n hx hb dX5_join_157 rfl (lv_at hl 2 rfl) ?_
                          refine lv_iload_n hx hb dX5_join_158 rfl (lv_at hl 3 rfl) ?_
                          refine z_wm (As := [.int (zI k)]) (rest := []) ⟨hx, hb, hml, hown, hts⟩ (c_X5_looks l D cI cO cL b ma hM (zup (zup (zup σ 0 0 0) 17 k (zSet (σ 17 k) w)) 18 k q) H_69 hRH_69 k (zInv_18 (zInv_17 (zInv_th hI 0) (zSet_r fk.2.2.1 (by omega))) (by show -1 ≤ q ∧ q < σ 11 0; omega)) (by show 0 ≤ k ∧ k < σ 14 0; omega)) (cwV 1 hts gX5_join_X5_looks rfl rfl rfl (by decide +kernel) ⟨Nat.le_of_ble_eq_true rfl, Nat.le_of_ble_eq_true rfl⟩) hK hSH_69 (m_recv hK hRH_69) rfl hl.1 rfl (Nat.le_of_ble_eq_true rfl) dX5_join_159 ⟨Nat.zero_le _, Nat.zero_le _⟩ (fun rH_71 σH_71 H_71 locsH_71 hpH_71 hRH_71 hzH_71 hSH_71 => ?_)
                          obtain ⟨rfl, rfl⟩ := hpH_71
                          refine lv_aload_n hx hb dX5_join_162 rfl (lv_at hl 2 rfl) ?_
                          refine m_get hx hb hts in_X5_join hown hK hRH_71 20 (by decide) lk_X5_join_56 rfl rfl dX5_join_163 ?_
                          refine lv_iload_n hx hb dX5_join_166 rfl (lv_at hl 3 rfl) ?_
                          refine m_ald hx hb hK hRH_71 20 rfl (by show 0 ≤ k ∧ k < ((40 : Nat) : Int); omega) dX5_join_167 ?_
                          have ht : zth_join σ k w q = 0 := by unfold zth_join; (repeat' split) <;> omega
                          exact W.iret hx hb hr (z_endM (post := zPost (zth_join σ k w q) (zan_join (zup σ 0 0 0) k w q) (zst_join (zup σ 0 0 0) k w q) (zup σ 0 0 (zth_join σ k w q))) (σ' := (zLook (zup (zup (zup σ 0 0 0) 17 k (zSet (σ 17 k) w)) 18 k q) k)) (v := some (.int (zI ((zLook (zup (zup (zup σ 0 0 0) 17 k (zSet (σ 17 k) w)) 18 k q) k) 20 k)))) (zPost_ok (a := ((zLook (zup (zup (zup σ 0 0 0) 17 k (zSet (σ 17 k) w)) 18 k q) k) 20 k)) ht (by unfold zan_join; rw [show zst_join (zup σ 0 0 0) k w q = zLook (zjn (zup σ 0 0 0) k w q) k from if_pos (show zSet (σ 17 k) w = 7 by omega)]; rw [show zjn (zup σ 0 0 0) k w q = zup (zup (zup σ 0 0 0) 17 k (zSet ((zup σ 0 0 0) 17 k) w)) 18 k q from if_pos (by omega)]; try rfl) (by rw [show zst_join (zup σ 0 0 0) k w q = zLook (zjn (zup σ 0 0 0) k w q) k from if_pos (show zSet (σ 17 k) w = 7 by omega)]; rw [show zjn (zup σ 0 0 0) k w q = zup (zup (zup σ 0 0 0) 17 k (zSet ((zup σ 0 0 0) 17 k) w)) 18 k q from if_pos (by omega)]; try rfl)) hRH_71 (hzH_71.trans (hzH_69.trans (hzH_65.trans (hzH_63.trans (hzH_54.trans rfl))))) hSH_71) hSH_71.2.2 dX5_join_168
                    · exact absurd c_64 (by decide)
                · refine lv_aload_n hx hb dX5_join_72 rfl (lv_at hl 1 rfl) ?_
                  refine m_get hx hb hts in_X5_join hown hK hRH_54 12 (by decide) lk_X5_join_35 rfl rfl dX5_join_73 ?_
                  refine lv_iload_n hx hb dX5_join_76 rfl (lv_at hl 4 rfl) ?_
                  refine m_ald hx hb hK hRH_54 12 rfl (by show 0 ≤ q ∧ q < ((8 : Nat) : Int); omega) dX5_join_77 ?_
                  refine z_top (b := σ 12 q) (by rw [zup_t (t := 0) (t' := 12) (by decide)]) ?_
                  refine lv_aload_n hx hb dX5_join_78 rfl (lv_at hl 1 rfl) ?_
                  refine m_get hx hb hts in_X5_join hown hK hRH_54 7 (by decide) lk_X5_join_23 rfl rfl dX5_join_79 ?_
                  refine lv_aload_n hx hb dX5_join_82 rfl (lv_at hl 1 rfl) ?_
                  refine m_get hx hb hts in_X5_join hown hK hRH_54 15 (by decide) lk_X5_join_41 rfl rfl dX5_join_83 ?_
                  refine lv_iload_n hx hb dX5_join_86 rfl (lv_at hl 2 rfl) ?_
                  refine m_ald hx hb hK hRH_54 15 rfl (by show 0 ≤ k ∧ k < ((40 : Nat) : Int); omega) dX5_join_87 ?_
                  refine z_top (b := σ 15 k) (by rw [zup_t (t := 0) (t' := 15) (by decide)]) ?_
                  refine m_ald hx hb hK hRH_54 7 rfl (by show 0 ≤ (σ 15 k) ∧ (σ 15 k) < ((12 : Nat) : Int); omega) dX5_join_88 ?_
                  refine z_top (b := σ 7 (σ 15 k)) (by rw [zup_t (t := 0) (t' := 7) (by decide)]) ?_
                  refine z_icmp_lt (tgt := 96) hx hb dX5_join_89 (by decide) (by omega) (fun c_72 => ?_) (fun c_72 => ?_)
                  · refine z_iconst hx hb dX5_join_96 ?_
                    refine lv_istore (lv' := [(5, .int (zI 0)), (4, .int (zI 1)), (0, .ref b), (1, .int (zI k)), (2, .int (zI w)), (3, .int (zI q))]) hx hb dX5_join_97 hl (by decide) rfl (fun ls hl => ?_)
                    refine lv_aload_n hx hb dX5_join_99 rfl (lv_at hl 2 rfl) ?_
                    refine lv_iload hx hb dX5_join_100 (lv_at hl 0 rfl) ?_
                    refine z_if_eq (tgt := 109) hx hb dX5_join_102 (by decide) (by omega) (fun c_73 => ?_) (fun c_73 => ?_)
                    · refine z_iconst hx hb dX5_join_109 ?_
                      refine m_put hx hb hts in_X5_join hown hK hRH_54 hM hSH_54 0 (by decide) rfl lk_X5_join_59 rfl rfl rfl rfl dX5_join_110 (fun H_74 locsH_74 hRH_74 hzH_74 hSH_74 => ?_)
                      rw [zup_2] at hRH_74
                      refine lv_aload_n hx hb dX5_join_113 rfl (lv_at hl 2 rfl) ?_
                      refine m_get hx hb hts in_X5_join hown hK hRH_74 0 (by decide) lk_X5_join_59 rfl rfl dX5_join_114 ?_
                      refine z_top (b := 2) (by rw [zup_s]) ?_
                      refine z_if_le (tgt := 122) hx hb dX5_join_117 (by decide) (by omega) (fun c_75 => ?_) (fun c_75 => ?_)
                      · exact absurd c_75 (by decide)
                      · refine z_iconst hx hb dX5_join_120 ?_
                        have ht : zth_join σ k w q = 2 := by unfold zth_join; (repeat' split) <;> omega
                        exact W.iret hx hb hr (z_endM (post := zPost (zth_join σ k w q) (zan_join (zup σ 0 0 0) k w q) (zst_join (zup σ 0 0 0) k w q) (zup σ 0 0 (zth_join σ k w q))) (σ' := (zup σ 0 0 2)) (v := some (.int (zI 0))) (zPost_no (a := 0) ht (by decide)) hRH_74 (hzH_74.trans (hzH_54.trans rfl)) hSH_74) hSH_74.2.2 dX5_join_121
                    · exact absurd c_73 (by decide)
                  · refine z_iconst hx hb dX5_join_92 ?_
                    refine lv_goto (tgt := 97) hx hb dX5_join_93 (by decide) ?_
                    refine lv_istore (lv' := [(5, .int (zI 1)), (4, .int (zI 1)), (0, .ref b), (1, .int (zI k)), (2, .int (zI w)), (3, .int (zI q))]) hx hb dX5_join_97 hl (by decide) rfl (fun ls hl => ?_)
                    refine lv_aload_n hx hb dX5_join_99 rfl (lv_at hl 2 rfl) ?_
                    refine lv_iload hx hb dX5_join_100 (lv_at hl 0 rfl) ?_
                    refine z_if_eq (tgt := 109) hx hb dX5_join_102 (by decide) (by omega) (fun c_76 => ?_) (fun c_76 => ?_)
                    · exact absurd c_76 (by decide)
                    · refine z_iconst hx hb dX5_join_105 ?_
                      refine lv_goto (tgt := 110) hx hb dX5_join_106 (by decide) ?_
                      refine m_put hx hb hts in_X5_join hown hK hRH_54 hM hSH_54 0 (by decide) rfl lk_X5_join_59 rfl rfl rfl rfl dX5_join_110 (fun H_77 locsH_77 hRH_77 hzH_77 hSH_77 => ?_)
                      rw [zup_2] at hRH_77
                      refine lv_aload_n hx hb dX5_join_113 rfl (lv_at hl 2 rfl) ?_
                      refine m_get hx hb hts in_X5_join hown hK hRH_77 0 (by decide) lk_X5_join_59 rfl rfl dX5_join_114 ?_
                      refine z_top (b := 0) (by rw [zup_s]) ?_
                      refine z_if_le (tgt := 122) hx hb dX5_join_117 (by decide) (by omega) (fun c_78 => ?_) (fun c_78 => ?_)
                      · refine lv_aload_n hx hb dX5_join_122 rfl (lv_at hl 2 rfl) ?_
                        refine m_get hx hb hts in_X5_join hown hK hRH_77 17 (by decide) lk_X5_join_47 rfl rfl dX5_join_123 ?_
                        refine lv_iload_n hx hb dX5_join_126 rfl (lv_at hl 3 rfl) ?_
                        refine lv_dup2_11 hx hb dX5_join_127 rfl rfl ?_
                        refine m_ald hx hb hK hRH_77 17 rfl (by show 0 ≤ k ∧ k < ((40 : Nat) : Int); omega) dX5_join_128 ?_
                        refine z_top (b := σ 17 k) (by rw [zup_t (t := 0) (t' := 17) (by decide)]) ?_
                        refine z_iconst hx hb dX5_join_129 ?_
                        refine lv_iload_n hx hb dX5_join_130 rfl (lv_at hl 4 rfl) ?_
                        refine z_ishl hx hb dX5_join_131 (by omega) ?_
                        refine z_ior hx hb dX5_join_132 (by omega) ?_
                        refine m_ast hx hb hK hRH_77 hM hSH_77 17 rfl (by show 0 ≤ k ∧ k < ((40 : Nat) : Int); omega) dX5_join_133 (fun H_79 locsH_79 hRH_79 hzH_79 hSH_79 => ?_)
                        have hzs := zSet_r (x := σ 17 k) (w := w) fk.2.2.1 (by omega)
                        refine lv_iload_n hx hb dX5_join_134 rfl (lv_at hl 4 rfl) ?_
                        refine z_iconst hx hb dX5_join_135 ?_
                        refine z_icmp_ne (tgt := 146) hx hb dX5_join_136 (by decide) (by omega) (fun c_80 => ?_) (fun c_80 => ?_)
                        · refine lv_aload_n hx hb dX5_join_146 rfl (lv_at hl 2 rfl) ?_
                          refine m_get hx hb hts in_X5_join hown hK hRH_79 17 (by decide) lk_X5_join_47 rfl rfl dX5_join_147 ?_
                          refine lv_iload_n hx hb dX5_join_150 rfl (lv_at hl 3 rfl) ?_
                          refine m_ald hx hb hK hRH_79 17 rfl (by show 0 ≤ k ∧ k < ((40 : Nat) : Int); omega) dX5_join_151 ?_
                          refine z_top (b := (zSet (σ 17 k) w)) (by rw [zup_s]) ?_
                          refine z_bipush hx hb dX5_join_152 (by decide +kernel) ?_
                          refine z_icmp_ne (tgt := 162) hx hb dX5_join_154 (by decide) (by omega) (fun c_81 => ?_) (fun c_81 => ?_)
                          · refine lv_aload_n hx hb dX5_join_162 rfl (lv_at hl 2 rfl) ?_
                            refine m_get hx hb hts in_X5_join hown hK hRH_79 20 (by decide) lk_X5_join_56 rfl rfl dX5_join_163 ?_
                            refine lv_iload_n hx hb dX5_join_166 rfl (lv_at hl 3 rfl) ?_
                            refine m_ald hx hb hK hRH_79 20 rfl (by show 0 ≤ k ∧ k < ((40 : Nat) : Int); omega) dX5_join_167 ?_
                            refine z_top (b := σ 20 k) (by rw [zup_t (t := 17) (t' := 20) (by decide), zup_t (t := 0) (t' := 20) (by decide)]) ?_
                            have ht : zth_join σ k w q = 0 := by unfold zth_join; (repeat' split) <;> omega
                            exact W.iret hx hb hr (z_endM (post := zPost (zth_join σ k w q) (zan_join (zup σ 0 0 0) k w q) (zst_join (zup σ 0 0 0) k w q) (zup σ 0 0 (zth_join σ k w q))) (σ' := (zup (zup σ 0 0 0) 17 k (zSet (σ 17 k) w))) (v := some (.int (zI (σ 20 k)))) (zPost_ok (a := (σ 20 k)) ht (by unfold zan_join; rw [show zst_join (zup σ 0 0 0) k w q = zjn (zup σ 0 0 0) k w q from if_neg (show ¬ zSet (σ 17 k) w = 7 by omega)]; rw [show zjn (zup σ 0 0 0) k w q = zup (zup σ 0 0 0) 17 k (zSet ((zup σ 0 0 0) 17 k) w) from if_neg (by omega)]; try rfl) (by rw [show zst_join (zup σ 0 0 0) k w q = zjn (zup σ 0 0 0) k w q from if_neg (show ¬ zSet (σ 17 k) w = 7 by omega)]; rw [show zjn (zup σ 0 0 0) k w q = zup (zup σ 0 0 0) 17 k (zSet ((zup σ 0 0 0) 17 k) w) from if_neg (by omega)]; try rfl)) hRH_79 (hzH_79.trans (hzH_77.trans (hzH_54.trans rfl))) hSH_79) hSH_79.2.2 dX5_join_168
                          · refine lv_aload_n hx hb dX5_join_157 rfl (lv_at hl 2 rfl) ?_
                            refine lv_iload_n hx hb dX5_join_158 rfl (lv_at hl 3 rfl) ?_
                            refine z_wm (As := [.int (zI k)]) (rest := []) ⟨hx, hb, hml, hown, hts⟩ (c_X5_looks l D cI cO cL b ma hM (zup (zup σ 0 0 0) 17 k (zSet (σ 17 k) w)) H_79 hRH_79 k (zInv_17 (zInv_th hI 0) (zSet_r fk.2.2.1 (by omega))) (by show 0 ≤ k ∧ k < σ 14 0; omega)) (cwV 1 hts gX5_join_X5_looks rfl rfl rfl (by decide +kernel) ⟨Nat.le_of_ble_eq_true rfl, Nat.le_of_ble_eq_true rfl⟩) hK hSH_79 (m_recv hK hRH_79) rfl hl.1 rfl (Nat.le_of_ble_eq_true rfl) dX5_join_159 ⟨Nat.zero_le _, Nat.zero_le _⟩ (fun rH_82 σH_82 H_82 locsH_82 hpH_82 hRH_82 hzH_82 hSH_82 => ?_)
                            obtain ⟨rfl, rfl⟩ := hpH_82
                            refine lv_aload_n hx hb dX5_join_162 rfl (lv_at hl 2 rfl) ?_
                            refine m_get hx hb hts in_X5_join hown hK hRH_82 20 (by decide) lk_X5_join_56 rfl rfl dX5_join_163 ?_
                            refine lv_iload_n hx hb dX5_join_166 rfl (lv_at hl 3 rfl) ?_
                            refine m_ald hx hb hK hRH_82 20 rfl (by show 0 ≤ k ∧ k < ((40 : Nat) : Int); omega) dX5_join_167 ?_
                            have ht : zth_join σ k w q = 0 := by unfold zth_join; (repeat' split) <;> omega
                            exact W.iret hx hb hr (z_endM (post := zPost (zth_join σ k w q) (zan_join (zup σ 0 0 0) k w q) (zst_join (zup σ 0 0 0) k w q) (zup σ 0 0 (zth_join σ k w q))) (σ' := (zLook (zup (zup σ 0 0 0) 17 k (zSet (σ 17 k) w)) k)) (v := some (.int (zI ((zLook (zup (zup σ 0 0 0) 17 k (zSet (σ 17 k) w)) k) 20 k)))) (zPost_ok (a := ((zLook (zup (zup σ 0 0 0) 17 k (zSet (σ 17 k) w)) k) 20 k)) ht (by unfold zan_join; rw [show zst_join (zup σ 0 0 0) k w q = zLook (zjn (zup σ 0 0 0) k w q) k from if_pos (show zSet (σ 17 k) w = 7 by omega)]; rw [show zjn (zup σ 0 0 0) k w q = zup (zup σ 0 0 0) 17 k (zSet ((zup σ 0 0 0) 17 k) w) from if_neg (by omega)]; try rfl) (by rw [show zst_join (zup σ 0 0 0) k w q = zLook (zjn (zup σ 0 0 0) k w q) k from if_pos (show zSet (σ 17 k) w = 7 by omega)]; rw [show zjn (zup σ 0 0 0) k w q = zup (zup σ 0 0 0) 17 k (zSet ((zup σ 0 0 0) 17 k) w) from if_neg (by omega)]; try rfl)) hRH_82 (hzH_82.trans (hzH_79.trans (hzH_77.trans (hzH_54.trans rfl)))) hSH_82) hSH_82.2.2 dX5_join_168
                        · refine lv_aload_n hx hb dX5_join_139 rfl (lv_at hl 2 rfl) ?_
                          refine m_get hx hb hts in_X5_join hown hK hRH_79 18 (by decide) lk_X5_join_50 rfl rfl dX5_join_140 ?_
                          refine lv_iload_n hx hb dX5_join_143 rfl (lv_at hl 3 rfl) ?_
                          refine lv_iload_n hx hb dX5_join_144 rfl (lv_at hl 5 rfl) ?_
                          refine m_ast hx hb hK hRH_79 hM hSH_79 18 rfl (by show 0 ≤ k ∧ k < ((40 : Nat) : Int); omega) dX5_join_145 (fun H_83 locsH_83 hRH_83 hzH_83 hSH_83 => ?_)
                          refine lv_aload_n hx hb dX5_join_146 rfl (lv_at hl 2 rfl) ?_
                          refine m_get hx hb hts in_X5_join hown hK hRH_83 17 (by decide) lk_X5_join_47 rfl rfl dX5_join_147 ?_
                          refine lv_iload_n hx hb dX5_join_150 rfl (lv_at hl 3 rfl) ?_
                          refine m_ald hx hb hK hRH_83 17 rfl (by show 0 ≤ k ∧ k < ((40 : Nat) : Int); omega) dX5_join_151 ?_
                          refine z_top (b := (zSet (σ 17 k) w)) (by rw [zup_t (t := 18) (t' := 17) (by decide), zup_s]) ?_
                          refine z_bipush hx hb dX5_join_152 (by decide +kernel) ?_
                          refine z_icmp_ne (tgt := 162) hx hb dX5_join_154 (by decide) (by omega) (fun c_84 => ?_) (fun c_84 => ?_)
                          · refine lv_aload_n hx hb dX5_join_162 rfl (lv_at hl 2 rfl) ?_
                            refine m_get hx hb hts in_X5_join hown hK hRH_83 20 (by decide) lk_X5_join_56 rfl rfl dX5_join_163 ?_
                            refine lv_iload_n hx hb dX5_join_166 rfl (lv_at hl 3 rfl) ?_
                            refine m_ald hx hb hK hRH_83 20 rfl (by show 0 ≤ k ∧ k < ((40 : Nat) : Int); omega) dX5_join_167 ?_
                            refine z_top (b := σ 20 k) (by rw [zup_t (t := 18) (t' := 20) (by decide), zup_t (t := 17) (t' := 20) (by decide), zup_t (t := 0) (t' := 20) (by decide)]) ?_
                            have ht : zth_join σ k w q = 0 := by unfold zth_join; (repeat' split) <;> omega
                            exact W.iret hx hb hr (z_endM (post := zPost (zth_join σ k w q) (zan_join (zup σ 0 0 0) k w q) (zst_join (zup σ 0 0 0) k w q) (zup σ 0 0 (zth_join σ k w q))) (σ' := (zup (zup (zup σ 0 0 0) 17 k (zSet (σ 17 k) w)) 18 k q)) (v := some (.int (zI (σ 20 k)))) (zPost_ok (a := (σ 20 k)) ht (by unfold zan_join; rw [show zst_join (zup σ 0 0 0) k w q = zjn (zup σ 0 0 0) k w q from if_neg (show ¬ zSet (σ 17 k) w = 7 by omega)]; rw [show zjn (zup σ 0 0 0) k w q = zup (zup (zup σ 0 0 0) 17 k (zSet ((zup σ 0 0 0) 17 k) w)) 18 k q from if_pos (by omega)]; try rfl) (by rw [show zst_join (zup σ 0 0 0) k w q = zjn (zup σ 0 0 0) k w q from if_neg (show ¬ zSet (σ 17 k) w = 7 by omega)]; rw [show zjn (zup σ 0 0 0) k w q = zup (zup (zup σ 0 0 0) 17 k (zSet ((zup σ 0 0 0) 17 k) w)) 18 k q from if_pos (by omega)]; try rfl)) hRH_83 (hzH_83.trans (hzH_79.trans (hzH_77.trans (hzH_54.trans rfl)))) hSH_83) hSH_83.2.2 dX5_join_168
                          · refine lv_aload_n hx hb dX5_join_157 rfl (lv_at hl 2 rfl) ?_
                            refine lv_iload_n hx hb dX5_join_158 rfl (lv_at hl 3 rfl) ?_
                            refine z_wm (As := [.int (zI k)]) (rest := []) ⟨hx, hb, hml, hown, hts⟩ (c_X5_looks l D cI cO cL b ma hM (zup (zup (zup σ 0 0 0) 17 k (zSet (σ 17 k) w)) 18 k q) H_83 hRH_83 k (zInv_18 (zInv_17 (zInv_th hI 0) (zSet_r fk.2.2.1 (by omega))) (by show -1 ≤ q ∧ q < σ 11 0; omega)) (by show 0 ≤ k ∧ k < σ 14 0; omega)) (cwV 1 hts gX5_join_X5_looks rfl rfl rfl (by decide +kernel) ⟨Nat.le_of_ble_eq_true rfl, Nat.le_of_ble_eq_true rfl⟩) hK hSH_83 (m_recv hK hRH_83) rfl hl.1 rfl (Nat.le_of_ble_eq_true rfl) dX5_join_159 ⟨Nat.zero_le _, Nat.zero_le _⟩ (fun rH_85 σH_85 H_85 locsH_85 hpH_85 hRH_85 hzH_85 hSH_85 => ?_)
                            obtain ⟨rfl, rfl⟩ := hpH_85
                            refine lv_aload_n hx hb dX5_join_162 rfl (lv_at hl 2 rfl) ?_
                            refine m_get hx hb hts in_X5_join hown hK hRH_85 20 (by decide) lk_X5_join_56 rfl rfl dX5_join_163 ?_
                            refine lv_iload_n hx hb dX5_join_166 rfl (lv_at hl 3 rfl) ?_
                            refine m_ald hx hb hK hRH_85 20 rfl (by show 0 ≤ k ∧ k < ((40 : Nat) : Int); omega) dX5_join_167 ?_
                            have ht : zth_join σ k w q = 0 := by unfold zth_join; (repeat' split) <;> omega
                            exact W.iret hx hb hr (z_endM (post := zPost (zth_join σ k w q) (zan_join (zup σ 0 0 0) k w q) (zst_join (zup σ 0 0 0) k w q) (zup σ 0 0 (zth_join σ k w q))) (σ' := (zLook (zup (zup (zup σ 0 0 0) 17 k (zSet (σ 17 k) w)) 18 k q) k)) (v := some (.int (zI ((zLook (zup (zup (zup σ 0 0 0) 17 k (zSet (σ 17 k) w)) 18 k q) k) 20 k)))) (zPost_ok (a := ((zLook (zup (zup (zup σ 0 0 0) 17 k (zSet (σ 17 k) w)) 18 k q) k) 20 k)) ht (by unfold zan_join; rw [show zst_join (zup σ 0 0 0) k w q = zLook (zjn (zup σ 0 0 0) k w q) k from if_pos (show zSet (σ 17 k) w = 7 by omega)]; rw [show zjn (zup σ 0 0 0) k w q = zup (zup (zup σ 0 0 0) 17 k (zSet ((zup σ 0 0 0) 17 k) w)) 18 k q from if_pos (by omega)]; try rfl) (by rw [show zst_join (zup σ 0 0 0) k w q = zLook (zjn (zup σ 0 0 0) k w q) k from if_pos (show zSet (σ 17 k) w = 7 by omega)]; rw [show zjn (zup σ 0 0 0) k w q = zup (zup (zup σ 0 0 0) 17 k (zSet ((zup σ 0 0 0) 17 k) w)) 18 k q from if_pos (by omega)]; try rfl)) hRH_85 (hzH_85.trans (hzH_83.trans (hzH_79.trans (hzH_77.trans (hzH_54.trans rfl))))) hSH_85) hSH_85.2.2 dX5_join_168
                      · exact absurd c_78 (by decide)

theorem lk_X5_minute_59 : Cond.fieldLink RX5 59 "HarbourPilotlineModel" "thrown" "I" ∈ wsX5_minute := by decide +kernel
theorem lk_X5_minute_92 : Cond.fieldLink RX5 92 "HarbourPilotlineModel" "now" "I" ∈ wsX5_minute := by decide +kernel
theorem in_X5_minute : ∀ w ∈ wsX50, w ∈ wsX5_minute := by decide +kernel
set_option maxRecDepth 100000 in
set_option maxHeartbeats 4000000 in
theorem c_X5_minute (l : Launch) (D : va_G) (cI cO cL : ClassId) (b : Nat) (ma : Nat → Nat) (hM : MA b ma) (σ : zT) (H0 : Heap) (hR : RM D cI b ma σ H0)  (hI : zInv σ) : zWM l yX5_minute wsX5_minute ({ frames := 0, cells := 0, slots := 0, locals := 0 }) D cI cO cL b ma [.ref b] H0 ((fun rv σ' => rv = some (.int (zI (σ 1 0))) ∧ σ' = zup σ 0 0 0)) := by
  refine Met.ofW (cc := cX5_minute) (maxL := 1) (ret := (some .int)) (by decide) rfl ?_
  intro p e s m args below meth c s₁ B hml hv
  obtain ⟨rfl, hH, hK⟩ := hv
  subst hH
  have hx := B.exec
  have hb := B.bytes
  have hr := B.returns
  have hts := atoms_spec (ws := wsX5_minute) B.pre
  have hown : s.vm.findClass RX5 = some m.cls := findClass_of_methodNamed B.named
  have hlocks := B.notSynchronized
  have hl := lv_entry ([.ref b]) (n := 1) (Nat.le_of_ble_eq_true rfl)
  rw [lg_entry_eq]
  generalize (lg_sl ([.ref b]) ++ List.replicate (1 - (lg_sl ([.ref b])).length) Slot.unset).toArray = ls at hl ⊢
  have hl : lv_has ls 1 [(0, .ref b)] := hl
  have f0 := hI.r
  refine lv_aload_n hx hb dX5_minute_0 rfl (lv_at hl 0 rfl) ?_
  refine z_iconst hx hb dX5_minute_1 ?_
  refine m_put hx hb hts in_X5_minute hown hK hR hM va_S.rf 0 (by decide) rfl lk_X5_minute_59 rfl rfl rfl rfl dX5_minute_2 (fun H_1 locsH_1 hRH_1 hzH_1 hSH_1 => ?_)
  refine lv_aload_n hx hb dX5_minute_5 rfl (lv_at hl 0 rfl) ?_
  refine m_get hx hb hts in_X5_minute hown hK hRH_1 1 (by decide) lk_X5_minute_92 rfl rfl dX5_minute_6 ?_
  refine z_top (b := σ 1 0) (by rw [zup_t (t := 0) (t' := 1) (by decide)]) ?_
  exact W.iret hx hb hr  (z_endM (post := (fun rv σ' => rv = some (.int (zI (σ 1 0))) ∧ σ' = zup σ 0 0 0)) (σ' := (zup σ 0 0 0)) (v := (some (.int (zI (σ 1 0))))) ⟨rfl, rfl⟩ hRH_1 (hzH_1.trans rfl) hSH_1) hSH_1.2.2 dX5_minute_9

theorem lk_X5_level_59 : Cond.fieldLink RX5 59 "HarbourPilotlineModel" "thrown" "I" ∈ wsX5_level := by decide +kernel
theorem in_X5_level : ∀ w ∈ wsX50, w ∈ wsX5_level := by decide +kernel
set_option maxRecDepth 100000 in
set_option maxHeartbeats 4000000 in
theorem c_X5_level (l : Launch) (D : va_G) (cI cO cL : ClassId) (b : Nat) (ma : Nat → Nat) (hM : MA b ma) (σ : zT) (H0 : Heap) (hR : RM D cI b ma σ H0) (t : Int) (hI : zInv σ) (ht : (-2147483648 ≤ t ∧ t < 2147483648)) : zWM l yX5_level wsX5_level ({ frames := 1, cells := 0, slots := 0, locals := 22 }) D cI cO cL b ma [.ref b, .int (zI t)] H0 (zPost (zth_level t) (zLev (zup σ 0 0 0) t) ((zup σ 0 0 0)) (zup σ 0 0 (zth_level t))) := by
  refine Met.ofW (cc := cX5_level) (maxL := 2) (ret := (some .int)) (by decide) rfl ?_
  intro p e s m args below meth c s₁ B hml hv
  obtain ⟨rfl, hH, hK⟩ := hv
  subst hH
  have hx := B.exec
  have hb := B.bytes
  have hr := B.returns
  have hts := atoms_spec (ws := wsX5_level) B.pre
  have hown : s.vm.findClass RX5 = some m.cls := findClass_of_methodNamed B.named
  have hlocks := B.notSynchronized
  have hl := lv_entry ([.ref b, .int (zI t)]) (n := 2) (Nat.le_of_ble_eq_true rfl)
  rw [lg_entry_eq]
  generalize (lg_sl ([.ref b, .int (zI t)]) ++ List.replicate (2 - (lg_sl ([.ref b, .int (zI t)])).length) Slot.unset).toArray = ls at hl ⊢
  have hl : lv_has ls 2 [(0, .ref b), (1, .int (zI t))] := hl
  have f0 := hI.r
  refine lv_aload_n hx hb dX5_level_0 rfl (lv_at hl 0 rfl) ?_
  refine lv_iload_n hx hb dX5_level_1 rfl (lv_at hl 1 rfl) ?_
  refine z_iconst hx hb dX5_level_2 ?_
  refine z_sipush hx hb dX5_level_3 (by decide +kernel) ?_
  refine z_cs (As := [.int (zI t), .int (zI 0), .int (zI 30000)]) (rest := [.ref b]) ⟨hx, hb, hml, hown, hts⟩ (c_X5_in l D cI cO cL b ma σ s.heap hR t 0 30000 (by omega)) (va_cwS 3 hts gX5_level_X5_in rfl rfl rfl (by decide +kernel) ⟨Nat.le_of_ble_eq_true rfl, Nat.le_of_ble_eq_true rfl⟩) (zKK_mv D cI cO cL) (fun U _ hv => va_K.moved hv hK) rfl hl.1 rfl (Nat.le_of_ble_eq_true rfl) dX5_level_6 ⟨Nat.zero_le _, Nat.zero_le _⟩ (fun r_1 hr_1 => ?_)
  rw [hr_1]
  refine z_ifb_eq (tgt := 16) hx hb dX5_level_9 (by decide) (fun c_2 => ?_) (fun c_2 => ?_)
  · refine z_iconst hx hb dX5_level_16 ?_
    refine m_put hx hb hts in_X5_level hown hK hR hM va_S.rf 0 (by decide) rfl lk_X5_level_59 rfl rfl rfl rfl dX5_level_17 (fun H_3 locsH_3 hRH_3 hzH_3 hSH_3 => ?_)
    refine lv_aload_n hx hb dX5_level_20 rfl (lv_at hl 0 rfl) ?_
    refine m_get hx hb hts in_X5_level hown hK hRH_3 0 (by decide) lk_X5_level_59 rfl rfl dX5_level_21 ?_
    refine z_top (b := 1) (by rw [zup_s]) ?_
    refine z_if_le (tgt := 31) hx hb dX5_level_24 (by decide) (by omega) (fun c_4 => ?_) (fun c_4 => ?_)
    · exact absurd c_4 (by decide)
    · refine z_iconst hx hb dX5_level_27 ?_
      refine lv_goto (tgt := 36) hx hb dX5_level_28 (by decide) ?_
      have ht : zth_level t = 1 := by unfold zth_level; (repeat' split) <;> omega
      exact W.iret hx hb hr (z_endM (post := zPost (zth_level t) (zLev (zup σ 0 0 0) t) ((zup σ 0 0 0)) (zup σ 0 0 (zth_level t))) (σ' := (zup σ 0 0 1)) (v := some (.int (zI 0))) (zPost_no (a := 0) ht (by decide)) hRH_3 (hzH_3.trans rfl) hSH_3) hSH_3.2.2 dX5_level_36
  · refine z_iconst hx hb dX5_level_12 ?_
    refine lv_goto (tgt := 17) hx hb dX5_level_13 (by decide) ?_
    refine m_put hx hb hts in_X5_level hown hK hR hM va_S.rf 0 (by decide) rfl lk_X5_level_59 rfl rfl rfl rfl dX5_level_17 (fun H_5 locsH_5 hRH_5 hzH_5 hSH_5 => ?_)
    refine lv_aload_n hx hb dX5_level_20 rfl (lv_at hl 0 rfl) ?_
    refine m_get hx hb hts in_X5_level hown hK hRH_5 0 (by decide) lk_X5_level_59 rfl rfl dX5_level_21 ?_
    refine z_top (b := 0) (by rw [zup_s]) ?_
    refine z_if_le (tgt := 31) hx hb dX5_level_24 (by decide) (by omega) (fun c_6 => ?_) (fun c_6 => ?_)
    · refine lv_aload_n hx hb dX5_level_31 rfl (lv_at hl 0 rfl) ?_
      refine lv_iload_n hx hb dX5_level_32 rfl (lv_at hl 1 rfl) ?_
      refine z_cv (As := [.int (zI t)]) (rest := []) ⟨hx, hb, hml, hown, hts⟩ (c_X5_levelAt l D cI cO cL b ma (zup σ 0 0 0) H_5 hRH_5 t (zInv_th hI 0) (by show 0 ≤ t ∧ t < 1000000; omega)) (cwV 1 hts gX5_level_X5_levelAt rfl rfl rfl (by decide +kernel) ⟨Nat.le_of_ble_eq_true rfl, Nat.le_of_ble_eq_true rfl⟩) (zKK_mv D cI cO cL) (fun U _ hv => va_K.moved hv hK) (m_recv hK hRH_5) rfl hl.1 rfl (Nat.le_of_ble_eq_true rfl) dX5_level_33 ⟨Nat.zero_le _, Nat.zero_le _⟩ (fun r_7 hr_7 => ?_)
      rw [hr_7]
      refine z_top (a := zLev (zup σ 0 0 0) t) (b := zLev σ t) rfl ?_
      have ht : zth_level t = 0 := by unfold zth_level; (repeat' split) <;> omega
      exact W.iret hx hb hr (z_endM (post := zPost (zth_level t) (zLev (zup σ 0 0 0) t) ((zup σ 0 0 0)) (zup σ 0 0 (zth_level t))) (σ' := (zup σ 0 0 0)) (v := some (.int (zI (zLev σ t)))) (zPost_ok (a := (zLev σ t)) ht (by rfl) (by rfl)) hRH_5 (hzH_5.trans rfl) hSH_5) hSH_5.2.2 dX5_level_36
    · exact absurd c_6 (by decide)

theorem lk_X5_window_59 : Cond.fieldLink RX5 59 "HarbourPilotlineModel" "thrown" "I" ∈ wsX5_window := by decide +kernel
theorem in_X5_window : ∀ w ∈ wsX50, w ∈ wsX5_window := by decide +kernel
set_option maxRecDepth 100000 in
set_option maxHeartbeats 4000000 in
theorem c_X5_window (l : Launch) (D : va_G) (cI cO cL : ClassId) (b : Nat) (ma : Nat → Nat) (hM : MA b ma) (σ : zT) (H0 : Heap) (hR : RM D cI b ma σ H0) (k t : Int) (hI : zInv σ) (hk : (-2147483648 ≤ k ∧ k < 2147483648)) (ht : (-2147483648 ≤ t ∧ t < 2147483648)) : zWM l yX5_window wsX5_window ({ frames := 2, cells := 0, slots := 0, locals := 48 }) D cI cO cL b ma [.ref b, .int (zI k), .int (zI t)] H0 (zPost (zth_window σ k t) (zan_window (zup σ 0 0 0) k t) ((zup σ 0 0 0)) (zup σ 0 0 (zth_window σ k t))) := by
  refine Met.ofW (cc := cX5_window) (maxL := 5) (ret := (some .int)) (by decide) rfl ?_
  intro p e s m args below meth c s₁ B hml hv
  obtain ⟨rfl, hH, hK⟩ := hv
  subst hH
  have hx := B.exec
  have hb := B.bytes
  have hr := B.returns
  have hts := atoms_spec (ws := wsX5_window) B.pre
  have hown : s.vm.findClass RX5 = some m.cls := findClass_of_methodNamed B.named
  have hlocks := B.notSynchronized
  have hl := lv_entry ([.ref b, .int (zI k), .int (zI t)]) (n := 5) (Nat.le_of_ble_eq_true rfl)
  rw [lg_entry_eq]
  generalize (lg_sl ([.ref b, .int (zI k), .int (zI t)]) ++ List.replicate (5 - (lg_sl ([.ref b, .int (zI k), .int (zI t)])).length) Slot.unset).toArray = ls at hl ⊢
  have hl : lv_has ls 5 [(0, .ref b), (1, .int (zI k)), (2, .int (zI t))] := hl
  have f0 := hI.r
  refine lv_aload_n hx hb dX5_window_0 rfl (lv_at hl 0 rfl) ?_
  refine lv_aload_n hx hb dX5_window_1 rfl (lv_at hl 0 rfl) ?_
  refine lv_iload_n hx hb dX5_window_2 rfl (lv_at hl 1 rfl) ?_
  refine z_cv (As := [.int (zI k)]) (rest := [.ref b]) ⟨hx, hb, hml, hown, hts⟩ (c_X5_isShip l D cI cO cL b ma σ s.heap hR k (by omega) (by omega)) (cwV 1 hts gX5_window_X5_isShip rfl rfl rfl (by decide +kernel) ⟨Nat.le_of_ble_eq_true rfl, Nat.le_of_ble_eq_true rfl⟩) (zKK_mv D cI cO cL) (fun U _ hv => va_K.moved hv hK) (m_recv hK hR) rfl hl.1 rfl (Nat.le_of_ble_eq_true rfl) dX5_window_3 ⟨Nat.zero_le _, Nat.zero_le _⟩ (fun r_1 hr_1 => ?_)
  rw [hr_1]
  refine z_ifb_ne (tgt := 13) hx hb dX5_window_6 (by decide) (fun c_2 => ?_) (fun c_2 => ?_)
  · refine lv_iload_n hx hb dX5_window_13 rfl (lv_at hl 2 rfl) ?_
    refine z_iconst hx hb dX5_window_14 ?_
    refine z_sipush hx hb dX5_window_15 (by decide +kernel) ?_
    refine z_cs (As := [.int (zI t), .int (zI 0), .int (zI 20000)]) (rest := [.ref b]) ⟨hx, hb, hml, hown, hts⟩ (c_X5_in l D cI cO cL b ma σ s.heap hR t 0 20000 (by omega)) (va_cwS 3 hts gX5_window_X5_in rfl rfl rfl (by decide +kernel) ⟨Nat.le_of_ble_eq_true rfl, Nat.le_of_ble_eq_true rfl⟩) (zKK_mv D cI cO cL) (fun U _ hv => va_K.moved hv hK) rfl hl.1 rfl (Nat.le_of_ble_eq_true rfl) dX5_window_18 ⟨Nat.zero_le _, Nat.zero_le _⟩ (fun r_3 hr_3 => ?_)
    rw [hr_3]
    refine z_ifb_eq (tgt := 28) hx hb dX5_window_21 (by decide) (fun c_4 => ?_) (fun c_4 => ?_)
    · refine z_iconst hx hb dX5_window_28 ?_
      refine m_put hx hb hts in_X5_window hown hK hR hM va_S.rf 0 (by decide) rfl lk_X5_window_59 rfl rfl rfl rfl dX5_window_29 (fun H_5 locsH_5 hRH_5 hzH_5 hSH_5 => ?_)
      refine z_iconst hx hb dX5_window_32 ?_
      refine lv_istore_n (lv' := [(3, .int (zI (-1))), (0, .ref b), (1, .int (zI k)), (2, .int (zI t))]) hx hb dX5_window_33 rfl hl (by decide) rfl (fun ls hl => ?_)
      refine lv_iload_n hx hb dX5_window_34 rfl (lv_at hl 3 rfl) ?_
      refine lv_istore (lv' := [(4, .int (zI t)), (3, .int (zI (-1))), (0, .ref b), (1, .int (zI k)), (2, .int (zI t))]) hx hb dX5_window_35 hl (by decide) rfl (fun ls hl => ?_)
      refine lv_aload_n hx hb dX5_window_37 rfl (lv_at hl 2 rfl) ?_
      refine m_get hx hb hts in_X5_window hown hK hRH_5 0 (by decide) lk_X5_window_59 rfl rfl dX5_window_38 ?_
      refine z_top (b := 2) (by rw [zup_s]) ?_
      refine z_if_ne (tgt := 82) hx hb dX5_window_41 (by decide) (by omega) (fun c_6 => ?_) (fun c_6 => ?_)
      · refine lv_aload_n hx hb dX5_window_82 rfl (lv_at hl 2 rfl) ?_
        refine m_get hx hb hts in_X5_window hown hK hRH_5 0 (by decide) lk_X5_window_59 rfl rfl dX5_window_83 ?_
        refine z_top (b := 2) (by rw [zup_s]) ?_
        refine z_if_le (tgt := 93) hx hb dX5_window_86 (by decide) (by omega) (fun c_7 => ?_) (fun c_7 => ?_)
        · exact absurd c_7 (by decide)
        · refine z_iconst hx hb dX5_window_89 ?_
          refine lv_goto (tgt := 94) hx hb dX5_window_90 (by decide) ?_
          have ht : zth_window σ k t = 2 := by unfold zth_window; (repeat' split) <;> omega
          exact W.iret hx hb hr (z_endM (post := zPost (zth_window σ k t) (zan_window (zup σ 0 0 0) k t) ((zup σ 0 0 0)) (zup σ 0 0 (zth_window σ k t))) (σ' := (zup σ 0 0 2)) (v := some (.int (zI 0))) (zPost_no (a := 0) ht (by decide)) hRH_5 (hzH_5.trans rfl) hSH_5) hSH_5.2.2 dX5_window_94
      · exact absurd c_6 (by decide)
    · refine z_iconst hx hb dX5_window_24 ?_
      refine lv_goto (tgt := 29) hx hb dX5_window_25 (by decide) ?_
      refine m_put hx hb hts in_X5_window hown hK hR hM va_S.rf 0 (by decide) rfl lk_X5_window_59 rfl rfl rfl rfl dX5_window_29 (fun H_8 locsH_8 hRH_8 hzH_8 hSH_8 => ?_)
      refine z_iconst hx hb dX5_window_32 ?_
      refine lv_istore_n (lv' := [(3, .int (zI (-1))), (0, .ref b), (1, .int (zI k)), (2, .int (zI t))]) hx hb dX5_window_33 rfl hl (by decide) rfl (fun ls hl => ?_)
      refine lv_iload_n hx hb dX5_window_34 rfl (lv_at hl 3 rfl) ?_
      refine lv_istore (lv' := [(4, .int (zI t)), (3, .int (zI (-1))), (0, .ref b), (1, .int (zI k)), (2, .int (zI t))]) hx hb dX5_window_35 hl (by decide) rfl (fun ls hl => ?_)
      refine z_cap (fun WW wi wo => ?_)
      have hL : ∀ (n : Nat) (f i : Int) (ls : Array Slot) (HL : Heap) (locsL : List Loc), (f = -1 ∧ zan_window σ k t = zSrch (zTideOk σ k) (t + 1441 - i).toNat i) ∨ (0 ≤ f ∧ zan_window σ k t = f) → t ≤ i ∧ i ≤ t + 1441 → -1 ≤ f ∧ f ≤ i → RM D cI b ma (zup σ 0 0 0) HL → HL.size = s.heap.size → va_S (AM b ma) s.heap HL locsL → (t + 1441 - i).toNat < n → lv_has ls 5 [(0, .ref b), (1, .int (zI k)), (2, .int (zI t)), (3, .int (zI f)), (4, .int (zI i))] → WW HL locsL 0 0 (F0 m 37 ls []) := by
        intro n
        induction n with
        | zero => intro f i ls HL locsL hf hi hg hRL hzL hSL hm; exact absurd hm (Nat.not_lt_zero _)
        | succ n ih =>
          intro f i ls HL locsL hf hi hg hRL hzL hSL hm hl
          refine wi _ _ _ _ _ ?_
          refine lv_aload_n hx hb dX5_window_37 rfl (lv_at hl 0 rfl) ?_
          refine m_get hx hb hts in_X5_window hown hK hRL 0 (by decide) lk_X5_window_59 rfl rfl dX5_window_38 ?_
          refine z_top (b := 0) (by rw [zup_s]) ?_
          refine z_if_ne (tgt := 82) hx hb dX5_window_41 (by decide) (by omega) (fun c_9 => ?_) (fun c_9 => ?_)
          · exact absurd c_9 (by decide)
          · refine lv_iload hx hb dX5_window_44 (lv_at hl 4 rfl) ?_
            refine lv_iload_n hx hb dX5_window_46 rfl (lv_at hl 2 rfl) ?_
            refine z_sipush hx hb dX5_window_47 (by decide +kernel) ?_
            refine z_iadd hx hb dX5_window_50 ?_
            refine z_icmp_gt (tgt := 82) hx hb dX5_window_51 (by decide) (by omega) (fun c_10 => ?_) (fun c_10 => ?_)
            · refine lv_aload_n hx hb dX5_window_82 rfl (lv_at hl 0 rfl) ?_
              refine m_get hx hb hts in_X5_window hown hK hRL 0 (by decide) lk_X5_window_59 rfl rfl dX5_window_83 ?_
              refine z_top (b := 0) (by rw [zup_s]) ?_
              refine z_if_le (tgt := 93) hx hb dX5_window_86 (by decide) (by omega) (fun c_11 => ?_) (fun c_11 => ?_)
              · refine lv_iload_n hx hb dX5_window_93 rfl (lv_at hl 3 rfl) ?_
                have ht : zth_window σ k t = 0 := by unfold zth_window; (repeat' split) <;> omega
                exact W.iret hx hb hr (z_endM (post := zPost (zth_window σ k t) (zan_window (zup σ 0 0 0) k t) ((zup σ 0 0 0)) (zup σ 0 0 (zth_window σ k t))) (σ' := (zup σ 0 0 0)) (v := some (.int (zI f))) (zPost_ok (a := f) ht (by show f = zan_window σ k t; rcases hf with hf | hf <;> first | omega | (rw [hf.2, zSrch_0 (by omega)]; omega)) rfl) hRL hzL hSL) hSL.2.2 dX5_window_94
              · exact absurd c_11 (by decide)
            · refine lv_iload_n hx hb dX5_window_54 rfl (lv_at hl 3 rfl) ?_
              refine z_iconst hx hb dX5_window_55 ?_
              refine z_icmp_ne (tgt := 82) hx hb dX5_window_56 (by decide) (by omega) (fun c_12 => ?_) (fun c_12 => ?_)
              · refine lv_aload_n hx hb dX5_window_82 rfl (lv_at hl 0 rfl) ?_
                refine m_get hx hb hts in_X5_window hown hK hRL 0 (by decide) lk_X5_window_59 rfl rfl dX5_window_83 ?_
                refine z_top (b := 0) (by rw [zup_s]) ?_
                refine z_if_le (tgt := 93) hx hb dX5_window_86 (by decide) (by omega) (fun c_13 => ?_) (fun c_13 => ?_)
                · refine lv_iload_n hx hb dX5_window_93 rfl (lv_at hl 3 rfl) ?_
                  have ht : zth_window σ k t = 0 := by unfold zth_window; (repeat' split) <;> omega
                  exact W.iret hx hb hr (z_endM (post := zPost (zth_window σ k t) (zan_window (zup σ 0 0 0) k t) ((zup σ 0 0 0)) (zup σ 0 0 (zth_window σ k t))) (σ' := (zup σ 0 0 0)) (v := some (.int (zI f))) (zPost_ok (a := f) ht (by show f = zan_window σ k t; rcases hf with hf | hf <;> first | omega | (rw [hf.2, zSrch_0 (by omega)]; omega)) rfl) hRL hzL hSL) hSL.2.2 dX5_window_94
                · exact absurd c_13 (by decide)
              · refine lv_aload_n hx hb dX5_window_59 rfl (lv_at hl 0 rfl) ?_
                refine lv_iload_n hx hb dX5_window_60 rfl (lv_at hl 1 rfl) ?_
                refine lv_iload hx hb dX5_window_61 (lv_at hl 4 rfl) ?_
                refine z_cv (As := [.int (zI k), .int (zI i)]) (rest := []) ⟨hx, hb, hml, hown, hts⟩ (c_X5_tideDoes l D cI cO cL b ma (zup σ 0 0 0) HL hRL k i (zInv_th hI 0) (by show 0 ≤ k ∧ k < σ 5 0; omega) (by show 0 ≤ i ∧ i < 900000; omega)) (cwV 2 hts gX5_window_X5_tideDoes rfl rfl rfl (by decide +kernel) ⟨Nat.le_of_ble_eq_true rfl, Nat.le_of_ble_eq_true rfl⟩) (zKK_mv D cI cO cL) (fun U _ hv => va_K.moved hv hK) (m_recv hK hRL) rfl hl.1 rfl (Nat.le_of_ble_eq_true rfl) dX5_window_63 ⟨Nat.zero_le _, Nat.zero_le _⟩ (fun r_14 hr_14 => ?_)
                rw [hr_14]
                refine z_top (a := bI (zTideOk (zup σ 0 0 0) k i)) (b := bI (zTideOk σ k i)) rfl ?_
                refine z_ifb_eq (tgt := 74) hx hb dX5_window_66 (by decide) (fun c_15 => ?_) (fun c_15 => ?_)
                · refine z_iconst hx hb dX5_window_74 ?_
                  refine lv_istore_n (lv' := [(3, .int (zI (-1))), (0, .ref b), (1, .int (zI k)), (2, .int (zI t)), (4, .int (zI i))]) hx hb dX5_window_75 rfl hl (by decide) rfl (fun ls hl => ?_)
                  refine z_iinc (lv' := [(4, .int (zI (i + 1))), (3, .int (zI (-1))), (0, .ref b), (1, .int (zI k)), (2, .int (zI t))]) hx hb dX5_window_76 hl (k := 4) rfl (by decide) rfl (fun ls hl => ?_)
                  refine lv_goto (tgt := 37) hx hb dX5_window_79 (by decide) ?_
                  exact wo _ _ _ _ _ (ih (-1) (i + 1) ls _ _ (by refine Or.inl ⟨rfl, ?_⟩; rcases hf with hf | hf <;> first | omega | (rw [hf.2, zSrch_fi (by omega) (by assumption), show t + 1441 - (i + 1) = t + 1441 - i - 1 by omega])) (by omega) (by omega) (by exact hRL) hzL hSL (by omega) (lv_sub hl [2, 3, 4, 1, 0] rfl))
                · refine lv_iload hx hb dX5_window_69 (lv_at hl 4 rfl) ?_
                  refine lv_goto (tgt := 75) hx hb dX5_window_71 (by decide) ?_
                  refine lv_istore_n (lv' := [(3, .int (zI i)), (0, .ref b), (1, .int (zI k)), (2, .int (zI t)), (4, .int (zI i))]) hx hb dX5_window_75 rfl hl (by decide) rfl (fun ls hl => ?_)
                  refine z_iinc (lv' := [(4, .int (zI (i + 1))), (3, .int (zI i)), (0, .ref b), (1, .int (zI k)), (2, .int (zI t))]) hx hb dX5_window_76 hl (k := 4) rfl (by decide) rfl (fun ls hl => ?_)
                  refine lv_goto (tgt := 37) hx hb dX5_window_79 (by decide) ?_
                  exact wo _ _ _ _ _ (ih i (i + 1) ls _ _ (by refine Or.inr ⟨by omega, ?_⟩; rcases hf with hf | hf <;> first | omega | (rw [hf.2]; exact zSrch_ti (by omega) (by assumption))) (by omega) (by omega) (by exact hRL) hzL hSL (by omega) (lv_sub hl [2, 3, 4, 1, 0] rfl))
      exact wo _ _ _ _ _ (hL _ (-1) t ls _ _ (by refine Or.inl ⟨rfl, ?_⟩; unfold zan_window; rw [show t + 1441 - t = 1441 by omega]; rfl) (by omega) (by omega) (by exact hRH_8) (hzH_8.trans rfl) hSH_8 (Nat.lt_succ_self _) (lv_sub hl [2, 3, 4, 1, 0] rfl))
  · refine z_iconst hx hb dX5_window_9 ?_
    refine lv_goto (tgt := 29) hx hb dX5_window_10 (by decide) ?_
    refine m_put hx hb hts in_X5_window hown hK hR hM va_S.rf 0 (by decide) rfl lk_X5_window_59 rfl rfl rfl rfl dX5_window_29 (fun H_16 locsH_16 hRH_16 hzH_16 hSH_16 => ?_)
    refine z_iconst hx hb dX5_window_32 ?_
    refine lv_istore_n (lv' := [(3, .int (zI (-1))), (0, .ref b), (1, .int (zI k)), (2, .int (zI t))]) hx hb dX5_window_33 rfl hl (by decide) rfl (fun ls hl => ?_)
    refine lv_iload_n hx hb dX5_window_34 rfl (lv_at hl 3 rfl) ?_
    refine lv_istore (lv' := [(4, .int (zI t)), (3, .int (zI (-1))), (0, .ref b), (1, .int (zI k)), (2, .int (zI t))]) hx hb dX5_window_35 hl (by decide) rfl (fun ls hl => ?_)
    refine lv_aload_n hx hb dX5_window_37 rfl (lv_at hl 2 rfl) ?_
    refine m_get hx hb hts in_X5_window hown hK hRH_16 0 (by decide) lk_X5_window_59 rfl rfl dX5_window_38 ?_
    refine z_top (b := 1) (by rw [zup_s]) ?_
    refine z_if_ne (tgt := 82) hx hb dX5_window_41 (by decide) (by omega) (fun c_17 => ?_) (fun c_17 => ?_)
    · refine lv_aload_n hx hb dX5_window_82 rfl (lv_at hl 2 rfl) ?_
      refine m_get hx hb hts in_X5_window hown hK hRH_16 0 (by decide) lk_X5_window_59 rfl rfl dX5_window_83 ?_
      refine z_top (b := 1) (by rw [zup_s]) ?_
      refine z_if_le (tgt := 93) hx hb dX5_window_86 (by decide) (by omega) (fun c_18 => ?_) (fun c_18 => ?_)
      · exact absurd c_18 (by decide)
      · refine z_iconst hx hb dX5_window_89 ?_
        refine lv_goto (tgt := 94) hx hb dX5_window_90 (by decide) ?_
        have ht : zth_window σ k t = 1 := by unfold zth_window; (repeat' split) <;> omega
        exact W.iret hx hb hr (z_endM (post := zPost (zth_window σ k t) (zan_window (zup σ 0 0 0) k t) ((zup σ 0 0 0)) (zup σ 0 0 (zth_window σ k t))) (σ' := (zup σ 0 0 1)) (v := some (.int (zI 0))) (zPost_no (a := 0) ht (by decide)) hRH_16 (hzH_16.trans rfl) hSH_16) hSH_16.2.2 dX5_window_94
    · exact absurd c_17 (by decide)

theorem lk_X5_ofConference_59 : Cond.fieldLink RX5 59 "HarbourPilotlineModel" "thrown" "I" ∈ wsX5_ofConference := by decide +kernel
theorem lk_X5_ofConference_53 : Cond.fieldLink RX5 53 "HarbourPilotlineModel" "state" "[I" ∈ wsX5_ofConference := by decide +kernel
theorem lk_X5_ofConference_56 : Cond.fieldLink RX5 56 "HarbourPilotlineModel" "slot" "[I" ∈ wsX5_ofConference := by decide +kernel
theorem lk_X5_ofConference_50 : Cond.fieldLink RX5 50 "HarbourPilotlineModel" "pilot" "[I" ∈ wsX5_ofConference := by decide +kernel
theorem lk_X5_ofConference_47 : Cond.fieldLink RX5 47 "HarbourPilotlineModel" "in" "[I" ∈ wsX5_ofConference := by decide +kernel
theorem lk_X5_ofConference_41 : Cond.fieldLink RX5 41 "HarbourPilotlineModel" "ship" "[I" ∈ wsX5_ofConference := by decide +kernel
theorem in_X5_ofConference : ∀ w ∈ wsX50, w ∈ wsX5_ofConference := by decide +kernel
set_option maxRecDepth 100000 in
set_option maxHeartbeats 4000000 in
theorem c_X5_ofConference (l : Launch) (D : va_G) (cI cO cL : ClassId) (b : Nat) (ma : Nat → Nat) (hM : MA b ma) (σ : zT) (H0 : Heap) (hR : RM D cI b ma σ H0) (k w : Int) (hI : zInv σ) (hk : (-2147483648 ≤ k ∧ k < 2147483648)) (hw : (-2147483648 ≤ w ∧ w < 2147483648)) : zWM l yX5_ofConference wsX5_ofConference ({ frames := 2, cells := 0, slots := 0, locals := 43 }) D cI cO cL b ma [.ref b, .int (zI k), .int (zI w)] H0 (zPost (zth_ofC σ k w) (zan_ofC (zup σ 0 0 0) k w) ((zup σ 0 0 0)) (zup σ 0 0 (zth_ofC σ k w))) := by
  refine Met.ofW (cc := cX5_ofConference) (maxL := 3) (ret := (some .int)) (by decide) rfl ?_
  intro p e s m args below meth c s₁ B hml hv
  obtain ⟨rfl, hH, hK⟩ := hv
  subst hH
  have hx := B.exec
  have hb := B.bytes
  have hr := B.returns
  have hts := atoms_spec (ws := wsX5_ofConference) B.pre
  have hown : s.vm.findClass RX5 = some m.cls := findClass_of_methodNamed B.named
  have hlocks := B.notSynchronized
  have hl := lv_entry ([.ref b, .int (zI k), .int (zI w)]) (n := 3) (Nat.le_of_ble_eq_true rfl)
  rw [lg_entry_eq]
  generalize (lg_sl ([.ref b, .int (zI k), .int (zI w)]) ++ List.replicate (3 - (lg_sl ([.ref b, .int (zI k), .int (zI w)])).length) Slot.unset).toArray = ls at hl ⊢
  have hl : lv_has ls 3 [(0, .ref b), (1, .int (zI k)), (2, .int (zI w))] := hl
  have f0 := hI.r
  refine lv_aload_n hx hb dX5_ofConference_0 rfl (lv_at hl 0 rfl) ?_
  refine lv_aload_n hx hb dX5_ofConference_1 rfl (lv_at hl 0 rfl) ?_
  refine lv_iload_n hx hb dX5_ofConference_2 rfl (lv_at hl 1 rfl) ?_
  refine z_cv (As := [.int (zI k)]) (rest := [.ref b]) ⟨hx, hb, hml, hown, hts⟩ (c_X5_isConference l D cI cO cL b ma σ s.heap hR k (by omega) (by omega)) (cwV 1 hts gX5_ofConference_X5_isConference rfl rfl rfl (by decide +kernel) ⟨Nat.le_of_ble_eq_true rfl, Nat.le_of_ble_eq_true rfl⟩) (zKK_mv D cI cO cL) (fun U _ hv => va_K.moved hv hK) (m_recv hK hR) rfl hl.1 rfl (Nat.le_of_ble_eq_true rfl) dX5_ofConference_3 ⟨Nat.zero_le _, Nat.zero_le _⟩ (fun r_1 hr_1 => ?_)
  rw [hr_1]
  refine z_ifb_eq (tgt := 22) hx hb dX5_ofConference_6 (by decide) (fun c_2 => ?_) (fun c_2 => ?_)
  · refine z_iconst hx hb dX5_ofConference_22 ?_
    refine m_put hx hb hts in_X5_ofConference hown hK hR hM va_S.rf 0 (by decide) rfl lk_X5_ofConference_59 rfl rfl rfl rfl dX5_ofConference_23 (fun H_3 locsH_3 hRH_3 hzH_3 hSH_3 => ?_)
    refine lv_aload_n hx hb dX5_ofConference_26 rfl (lv_at hl 0 rfl) ?_
    refine m_get hx hb hts in_X5_ofConference hown hK hRH_3 0 (by decide) lk_X5_ofConference_59 rfl rfl dX5_ofConference_27 ?_
    refine z_top (b := 1) (by rw [zup_s]) ?_
    refine z_if_le (tgt := 35) hx hb dX5_ofConference_30 (by decide) (by omega) (fun c_4 => ?_) (fun c_4 => ?_)
    · exact absurd c_4 (by decide)
    · refine z_iconst hx hb dX5_ofConference_33 ?_
      have ht : zth_ofC σ k w = 1 := by unfold zth_ofC; (repeat' split) <;> omega
      exact W.iret hx hb hr (z_endM (post := zPost (zth_ofC σ k w) (zan_ofC (zup σ 0 0 0) k w) ((zup σ 0 0 0)) (zup σ 0 0 (zth_ofC σ k w))) (σ' := (zup σ 0 0 1)) (v := some (.int (zI 0))) (zPost_no (a := 0) ht (by decide)) hRH_3 (hzH_3.trans rfl) hSH_3) hSH_3.2.2 dX5_ofConference_34
  · have fk := hI.c (i := k) (by omega)
    have gk := hI.s (i := σ 15 k) (by omega)
    refine lv_iload_n hx hb dX5_ofConference_9 rfl (lv_at hl 2 rfl) ?_
    refine z_iconst hx hb dX5_ofConference_10 ?_
    refine z_iconst hx hb dX5_ofConference_11 ?_
    refine z_cs (As := [.int (zI w), .int (zI 0), .int (zI 4)]) (rest := [.ref b]) ⟨hx, hb, hml, hown, hts⟩ (c_X5_in l D cI cO cL b ma σ s.heap hR w 0 4 (by omega)) (va_cwS 3 hts gX5_ofConference_X5_in rfl rfl rfl (by decide +kernel) ⟨Nat.le_of_ble_eq_true rfl, Nat.le_of_ble_eq_true rfl⟩) (zKK_mv D cI cO cL) (fun U _ hv => va_K.moved hv hK) rfl hl.1 rfl (Nat.le_of_ble_eq_true rfl) dX5_ofConference_12 ⟨Nat.zero_le _, Nat.zero_le _⟩ (fun r_5 hr_5 => ?_)
    rw [hr_5]
    refine z_ifb_eq (tgt := 22) hx hb dX5_ofConference_15 (by decide) (fun c_6 => ?_) (fun c_6 => ?_)
    · refine z_iconst hx hb dX5_ofConference_22 ?_
      refine m_put hx hb hts in_X5_ofConference hown hK hR hM va_S.rf 0 (by decide) rfl lk_X5_ofConference_59 rfl rfl rfl rfl dX5_ofConference_23 (fun H_7 locsH_7 hRH_7 hzH_7 hSH_7 => ?_)
      refine lv_aload_n hx hb dX5_ofConference_26 rfl (lv_at hl 0 rfl) ?_
      refine m_get hx hb hts in_X5_ofConference hown hK hRH_7 0 (by decide) lk_X5_ofConference_59 rfl rfl dX5_ofConference_27 ?_
      refine z_top (b := 1) (by rw [zup_s]) ?_
      refine z_if_le (tgt := 35) hx hb dX5_ofConference_30 (by decide) (by omega) (fun c_8 => ?_) (fun c_8 => ?_)
      · exact absurd c_8 (by decide)
      · refine z_iconst hx hb dX5_ofConference_33 ?_
        have ht : zth_ofC σ k w = 1 := by unfold zth_ofC; (repeat' split) <;> omega
        exact W.iret hx hb hr (z_endM (post := zPost (zth_ofC σ k w) (zan_ofC (zup σ 0 0 0) k w) ((zup σ 0 0 0)) (zup σ 0 0 (zth_ofC σ k w))) (σ' := (zup σ 0 0 1)) (v := some (.int (zI 0))) (zPost_no (a := 0) ht (by decide)) hRH_7 (hzH_7.trans rfl) hSH_7) hSH_7.2.2 dX5_ofConference_34
    · refine z_iconst hx hb dX5_ofConference_18 ?_
      refine lv_goto (tgt := 23) hx hb dX5_ofConference_19 (by decide) ?_
      refine m_put hx hb hts in_X5_ofConference hown hK hR hM va_S.rf 0 (by decide) rfl lk_X5_ofConference_59 rfl rfl rfl rfl dX5_ofConference_23 (fun H_9 locsH_9 hRH_9 hzH_9 hSH_9 => ?_)
      refine lv_aload_n hx hb dX5_ofConference_26 rfl (lv_at hl 0 rfl) ?_
      refine m_get hx hb hts in_X5_ofConference hown hK hRH_9 0 (by decide) lk_X5_ofConference_59 rfl rfl dX5_ofConference_27 ?_
      refine z_top (b := 0) (by rw [zup_s]) ?_
      refine z_if_le (tgt := 35) hx hb dX5_ofConference_30 (by decide) (by omega) (fun c_10 => ?_) (fun c_10 => ?_)
      · refine lv_iload_n hx hb dX5_ofConference_35 rfl (lv_at hl 2 rfl) ?_
        by_cases c_11 : w = 0
        · refine lv_tableIn (off := 32) (tgt := 68) hx hb dX5_ofConference_36 (by rw [zI_val (by omega)]; omega) (by rw [zI_val (by omega)]; omega) (by rw [zI_val (by omega), c_11]; rfl) (by decide) ?_
          refine lv_aload_n hx hb dX5_ofConference_68 rfl (lv_at hl 0 rfl) ?_
          refine m_get hx hb hts in_X5_ofConference hown hK hRH_9 19 (by decide) lk_X5_ofConference_53 rfl rfl dX5_ofConference_69 ?_
          refine lv_iload_n hx hb dX5_ofConference_72 rfl (lv_at hl 1 rfl) ?_
          refine m_ald hx hb hK hRH_9 19 rfl (by show 0 ≤ k ∧ k < ((40 : Nat) : Int); omega) dX5_ofConference_73 ?_
          refine z_top (b := σ 19 k) (by rw [zup_t (t := 0) (t' := 19) (by decide)]) ?_
          have ht : zth_ofC σ k w = 0 := by unfold zth_ofC; (repeat' split) <;> omega
          exact W.iret hx hb hr (z_endM (post := zPost (zth_ofC σ k w) (zan_ofC (zup σ 0 0 0) k w) ((zup σ 0 0 0)) (zup σ 0 0 (zth_ofC σ k w))) (σ' := (zup σ 0 0 0)) (v := some (.int (zI (σ 19 k)))) (zPost_ok (a := (σ 19 k)) ht (by unfold zan_ofC; first | (rw [if_pos (by omega)]; rfl) | (rw [if_neg (by omega), if_pos (by omega)]; rfl) | (rw [if_neg (by omega), if_neg (by omega), if_pos (by omega)]; rfl) | (rw [if_neg (by omega), if_neg (by omega), if_neg (by omega), if_pos (by omega)]; rfl) | (rw [if_neg (by omega), if_neg (by omega), if_neg (by omega), if_neg (by omega)]; rfl)) (by rfl)) hRH_9 (hzH_9.trans rfl) hSH_9) hSH_9.2.2 dX5_ofConference_74
        by_cases c_12 : w = 1
        · refine lv_tableIn (off := 39) (tgt := 75) hx hb dX5_ofConference_36 (by rw [zI_val (by omega)]; omega) (by rw [zI_val (by omega)]; omega) (by rw [zI_val (by omega), c_12]; rfl) (by decide) ?_
          refine lv_aload_n hx hb dX5_ofConference_75 rfl (lv_at hl 0 rfl) ?_
          refine m_get hx hb hts in_X5_ofConference hown hK hRH_9 20 (by decide) lk_X5_ofConference_56 rfl rfl dX5_ofConference_76 ?_
          refine lv_iload_n hx hb dX5_ofConference_79 rfl (lv_at hl 1 rfl) ?_
          refine m_ald hx hb hK hRH_9 20 rfl (by show 0 ≤ k ∧ k < ((40 : Nat) : Int); omega) dX5_ofConference_80 ?_
          refine z_top (b := σ 20 k) (by rw [zup_t (t := 0) (t' := 20) (by decide)]) ?_
          have ht : zth_ofC σ k w = 0 := by unfold zth_ofC; (repeat' split) <;> omega
          exact W.iret hx hb hr (z_endM (post := zPost (zth_ofC σ k w) (zan_ofC (zup σ 0 0 0) k w) ((zup σ 0 0 0)) (zup σ 0 0 (zth_ofC σ k w))) (σ' := (zup σ 0 0 0)) (v := some (.int (zI (σ 20 k)))) (zPost_ok (a := (σ 20 k)) ht (by unfold zan_ofC; first | (rw [if_pos (by omega)]; rfl) | (rw [if_neg (by omega), if_pos (by omega)]; rfl) | (rw [if_neg (by omega), if_neg (by omega), if_pos (by omega)]; rfl) | (rw [if_neg (by omega), if_neg (by omega), if_neg (by omega), if_pos (by omega)]; rfl) | (rw [if_neg (by omega), if_neg (by omega), if_neg (by omega), if_neg (by omega)]; rfl)) (by rfl)) hRH_9 (hzH_9.trans rfl) hSH_9) hSH_9.2.2 dX5_ofConference_81
        by_cases c_13 : w = 2
        · refine lv_tableIn (off := 46) (tgt := 82) hx hb dX5_ofConference_36 (by rw [zI_val (by omega)]; omega) (by rw [zI_val (by omega)]; omega) (by rw [zI_val (by omega), c_13]; rfl) (by decide) ?_
          refine lv_aload_n hx hb dX5_ofConference_82 rfl (lv_at hl 0 rfl) ?_
          refine m_get hx hb hts in_X5_ofConference hown hK hRH_9 18 (by decide) lk_X5_ofConference_50 rfl rfl dX5_ofConference_83 ?_
          refine lv_iload_n hx hb dX5_ofConference_86 rfl (lv_at hl 1 rfl) ?_
          refine m_ald hx hb hK hRH_9 18 rfl (by show 0 ≤ k ∧ k < ((40 : Nat) : Int); omega) dX5_ofConference_87 ?_
          refine z_top (b := σ 18 k) (by rw [zup_t (t := 0) (t' := 18) (by decide)]) ?_
          have ht : zth_ofC σ k w = 0 := by unfold zth_ofC; (repeat' split) <;> omega
          exact W.iret hx hb hr (z_endM (post := zPost (zth_ofC σ k w) (zan_ofC (zup σ 0 0 0) k w) ((zup σ 0 0 0)) (zup σ 0 0 (zth_ofC σ k w))) (σ' := (zup σ 0 0 0)) (v := some (.int (zI (σ 18 k)))) (zPost_ok (a := (σ 18 k)) ht (by unfold zan_ofC; first | (rw [if_pos (by omega)]; rfl) | (rw [if_neg (by omega), if_pos (by omega)]; rfl) | (rw [if_neg (by omega), if_neg (by omega), if_pos (by omega)]; rfl) | (rw [if_neg (by omega), if_neg (by omega), if_neg (by omega), if_pos (by omega)]; rfl) | (rw [if_neg (by omega), if_neg (by omega), if_neg (by omega), if_neg (by omega)]; rfl)) (by rfl)) hRH_9 (hzH_9.trans rfl) hSH_9) hSH_9.2.2 dX5_ofConference_88
        by_cases c_14 : w = 3
        · refine lv_tableIn (off := 53) (tgt := 89) hx hb dX5_ofConference_36 (by rw [zI_val (by omega)]; omega) (by rw [zI_val (by omega)]; omega) (by rw [zI_val (by omega), c_14]; rfl) (by decide) ?_
          refine lv_aload_n hx hb dX5_ofConference_89 rfl (lv_at hl 0 rfl) ?_
          refine m_get hx hb hts in_X5_ofConference hown hK hRH_9 17 (by decide) lk_X5_ofConference_47 rfl rfl dX5_ofConference_90 ?_
          refine lv_iload_n hx hb dX5_ofConference_93 rfl (lv_at hl 1 rfl) ?_
          refine m_ald hx hb hK hRH_9 17 rfl (by show 0 ≤ k ∧ k < ((40 : Nat) : Int); omega) dX5_ofConference_94 ?_
          refine z_top (b := σ 17 k) (by rw [zup_t (t := 0) (t' := 17) (by decide)]) ?_
          refine z_cs (As := [.int (zI (σ 17 k))]) (rest := []) ⟨hx, hb, hml, hown, hts⟩ (c_X5_many l D cI cO cL b ma (zup σ 0 0 0) H_9 hRH_9 (σ 17 k) (by show 0 ≤ (σ 17 k) ∧ (σ 17 k) ≤ 7; omega)) (va_cwS 1 hts gX5_ofConference_X5_many rfl rfl rfl (by decide +kernel) ⟨Nat.le_of_ble_eq_true rfl, Nat.le_of_ble_eq_true rfl⟩) (zKK_mv D cI cO cL) (fun U _ hv => va_K.moved hv hK) rfl hl.1 rfl (Nat.le_of_ble_eq_true rfl) dX5_ofConference_95 ⟨Nat.zero_le _, Nat.zero_le _⟩ (fun r_15 hr_15 => ?_)
          rw [hr_15]
          have ht : zth_ofC σ k w = 0 := by unfold zth_ofC; (repeat' split) <;> omega
          exact W.iret hx hb hr (z_endM (post := zPost (zth_ofC σ k w) (zan_ofC (zup σ 0 0 0) k w) ((zup σ 0 0 0)) (zup σ 0 0 (zth_ofC σ k w))) (σ' := (zup σ 0 0 0)) (v := some (.int (zI (zMany (σ 17 k))))) (zPost_ok (a := (zMany (σ 17 k))) ht (by unfold zan_ofC; first | (rw [if_pos (by omega)]; rfl) | (rw [if_neg (by omega), if_pos (by omega)]; rfl) | (rw [if_neg (by omega), if_neg (by omega), if_pos (by omega)]; rfl) | (rw [if_neg (by omega), if_neg (by omega), if_neg (by omega), if_pos (by omega)]; rfl) | (rw [if_neg (by omega), if_neg (by omega), if_neg (by omega), if_neg (by omega)]; rfl)) (by rfl)) hRH_9 (hzH_9.trans rfl) hSH_9) hSH_9.2.2 dX5_ofConference_98
        refine lv_tableOut (tgt := 99) hx hb dX5_ofConference_36 (by rw [zI_val (by omega)]; omega) (by decide) ?_
        refine lv_aload_n hx hb dX5_ofConference_99 rfl (lv_at hl 0 rfl) ?_
        refine m_get hx hb hts in_X5_ofConference hown hK hRH_9 15 (by decide) lk_X5_ofConference_41 rfl rfl dX5_ofConference_100 ?_
        refine lv_iload_n hx hb dX5_ofConference_103 rfl (lv_at hl 1 rfl) ?_
        refine m_ald hx hb hK hRH_9 15 rfl (by show 0 ≤ k ∧ k < ((40 : Nat) : Int); omega) dX5_ofConference_104 ?_
        refine z_top (b := σ 15 k) (by rw [zup_t (t := 0) (t' := 15) (by decide)]) ?_
        have ht : zth_ofC σ k w = 0 := by unfold zth_ofC; (repeat' split) <;> omega
        exact W.iret hx hb hr (z_endM (post := zPost (zth_ofC σ k w) (zan_ofC (zup σ 0 0 0) k w) ((zup σ 0 0 0)) (zup σ 0 0 (zth_ofC σ k w))) (σ' := (zup σ 0 0 0)) (v := some (.int (zI (σ 15 k)))) (zPost_ok (a := (σ 15 k)) ht (by unfold zan_ofC; first | (rw [if_pos (by omega)]; rfl) | (rw [if_neg (by omega), if_pos (by omega)]; rfl) | (rw [if_neg (by omega), if_neg (by omega), if_pos (by omega)]; rfl) | (rw [if_neg (by omega), if_neg (by omega), if_neg (by omega), if_pos (by omega)]; rfl) | (rw [if_neg (by omega), if_neg (by omega), if_neg (by omega), if_neg (by omega)]; rfl)) (by rfl)) hRH_9 (hzH_9.trans rfl) hSH_9) hSH_9.2.2 dX5_ofConference_105
      · exact absurd c_10 (by decide)

theorem lk_X5_why_92 : Cond.fieldLink RX5 92 "HarbourPilotlineModel" "now" "I" ∈ wsX5_why := by decide +kernel
theorem lk_X5_why_50 : Cond.fieldLink RX5 50 "HarbourPilotlineModel" "pilot" "[I" ∈ wsX5_why := by decide +kernel
theorem lk_X5_why_59 : Cond.fieldLink RX5 59 "HarbourPilotlineModel" "thrown" "I" ∈ wsX5_why := by decide +kernel
theorem lk_X5_why_41 : Cond.fieldLink RX5 41 "HarbourPilotlineModel" "ship" "[I" ∈ wsX5_why := by decide +kernel
theorem in_X5_why : ∀ w ∈ wsX50, w ∈ wsX5_why := by decide +kernel
set_option maxRecDepth 100000 in
set_option maxHeartbeats 4000000 in
theorem c_X5_why (l : Launch) (D : va_G) (cI cO cL : ClassId) (b : Nat) (ma : Nat → Nat) (hM : MA b ma) (σ : zT) (H0 : Heap) (hR : RM D cI b ma σ H0) (k t : Int) (hI : zInv σ) (hk : (-2147483648 ≤ k ∧ k < 2147483648)) (ht : (-2147483648 ≤ t ∧ t < 2147483648)) : zWM l yX5_why wsX5_why ({ frames := 3, cells := 0, slots := 0, locals := 70 }) D cI cO cL b ma [.ref b, .int (zI k), .int (zI t)] H0 (zPost (zth_why σ k t) (zan_why (zup σ 0 0 0) k t) ((zup σ 0 0 0)) (zup σ 0 0 (zth_why σ k t))) := by
  refine Met.ofW (cc := cX5_why) (maxL := 3) (ret := (some .int)) (by decide) rfl ?_
  intro p e s m args below meth c s₁ B hml hv
  obtain ⟨rfl, hH, hK⟩ := hv
  subst hH
  have hx := B.exec
  have hb := B.bytes
  have hr := B.returns
  have hts := atoms_spec (ws := wsX5_why) B.pre
  have hown : s.vm.findClass RX5 = some m.cls := findClass_of_methodNamed B.named
  have hlocks := B.notSynchronized
  have hl := lv_entry ([.ref b, .int (zI k), .int (zI t)]) (n := 3) (Nat.le_of_ble_eq_true rfl)
  rw [lg_entry_eq]
  generalize (lg_sl ([.ref b, .int (zI k), .int (zI t)]) ++ List.replicate (3 - (lg_sl ([.ref b, .int (zI k), .int (zI t)])).length) Slot.unset).toArray = ls at hl ⊢
  have hl : lv_has ls 3 [(0, .ref b), (1, .int (zI k)), (2, .int (zI t))] := hl
  have f0 := hI.r
  refine lv_aload_n hx hb dX5_why_0 rfl (lv_at hl 0 rfl) ?_
  refine lv_aload_n hx hb dX5_why_1 rfl (lv_at hl 0 rfl) ?_
  refine lv_iload_n hx hb dX5_why_2 rfl (lv_at hl 1 rfl) ?_
  refine z_cv (As := [.int (zI k)]) (rest := [.ref b]) ⟨hx, hb, hml, hown, hts⟩ (c_X5_isConference l D cI cO cL b ma σ s.heap hR k (by omega) (by omega)) (cwV 1 hts gX5_why_X5_isConference rfl rfl rfl (by decide +kernel) ⟨Nat.le_of_ble_eq_true rfl, Nat.le_of_ble_eq_true rfl⟩) (zKK_mv D cI cO cL) (fun U _ hv => va_K.moved hv hK) (m_recv hK hR) rfl hl.1 rfl (Nat.le_of_ble_eq_true rfl) dX5_why_3 ⟨Nat.zero_le _, Nat.zero_le _⟩ (fun r_1 hr_1 => ?_)
  rw [hr_1]
  refine z_ifb_ne (tgt := 13) hx hb dX5_why_6 (by decide) (fun c_2 => ?_) (fun c_2 => ?_)
  · have fk := hI.c (i := k) (by omega)
    have gk := hI.s (i := σ 15 k) (by omega)
    refine lv_iload_n hx hb dX5_why_13 rfl (lv_at hl 2 rfl) ?_
    refine lv_aload_n hx hb dX5_why_14 rfl (lv_at hl 0 rfl) ?_
    refine m_get hx hb hts in_X5_why hown hK hR 1 (by decide) lk_X5_why_92 rfl rfl dX5_why_15 ?_
    refine z_sipush hx hb dX5_why_18 (by decide +kernel) ?_
    refine z_cs (As := [.int (zI t), .int (zI (σ 1 0)), .int (zI 21440)]) (rest := [.ref b]) ⟨hx, hb, hml, hown, hts⟩ (c_X5_in l D cI cO cL b ma σ s.heap hR t (σ 1 0) 21440 (by omega)) (va_cwS 3 hts gX5_why_X5_in rfl rfl rfl (by decide +kernel) ⟨Nat.le_of_ble_eq_true rfl, Nat.le_of_ble_eq_true rfl⟩) (zKK_mv D cI cO cL) (fun U _ hv => va_K.moved hv hK) rfl hl.1 rfl (Nat.le_of_ble_eq_true rfl) dX5_why_21 ⟨Nat.zero_le _, Nat.zero_le _⟩ (fun r_3 hr_3 => ?_)
    rw [hr_3]
    refine z_ifb_ne (tgt := 31) hx hb dX5_why_24 (by decide) (fun c_4 => ?_) (fun c_4 => ?_)
    · refine lv_aload_n hx hb dX5_why_31 rfl (lv_at hl 0 rfl) ?_
      refine m_get hx hb hts in_X5_why hown hK hR 18 (by decide) lk_X5_why_50 rfl rfl dX5_why_32 ?_
      refine lv_iload_n hx hb dX5_why_35 rfl (lv_at hl 1 rfl) ?_
      refine m_ald hx hb hK hR 18 rfl (by show 0 ≤ k ∧ k < ((40 : Nat) : Int); omega) dX5_why_36 ?_
      refine z_iconst hx hb dX5_why_37 ?_
      refine z_icmp_ne (tgt := 45) hx hb dX5_why_38 (by decide) (by omega) (fun c_5 => ?_) (fun c_5 => ?_)
      · refine z_iconst hx hb dX5_why_45 ?_
        refine m_put hx hb hts in_X5_why hown hK hR hM va_S.rf 0 (by decide) rfl lk_X5_why_59 rfl rfl rfl rfl dX5_why_46 (fun H_6 locsH_6 hRH_6 hzH_6 hSH_6 => ?_)
        refine lv_aload_n hx hb dX5_why_49 rfl (lv_at hl 0 rfl) ?_
        refine m_get hx hb hts in_X5_why hown hK hRH_6 0 (by decide) lk_X5_why_59 rfl rfl dX5_why_50 ?_
        refine z_top (b := 0) (by rw [zup_s]) ?_
        refine z_if_le (tgt := 58) hx hb dX5_why_53 (by decide) (by omega) (fun c_7 => ?_) (fun c_7 => ?_)
        · refine lv_aload_n hx hb dX5_why_58 rfl (lv_at hl 0 rfl) ?_
          refine lv_aload_n hx hb dX5_why_59 rfl (lv_at hl 0 rfl) ?_
          refine m_get hx hb hts in_X5_why hown hK hRH_6 15 (by decide) lk_X5_why_41 rfl rfl dX5_why_60 ?_
          refine lv_iload_n hx hb dX5_why_63 rfl (lv_at hl 1 rfl) ?_
          refine m_ald hx hb hK hRH_6 15 rfl (by show 0 ≤ k ∧ k < ((40 : Nat) : Int); omega) dX5_why_64 ?_
          refine z_top (b := σ 15 k) (by rw [zup_t (t := 0) (t' := 15) (by decide)]) ?_
          refine lv_iload_n hx hb dX5_why_65 rfl (lv_at hl 2 rfl) ?_
          refine z_cv (As := [.int (zI (σ 15 k)), .int (zI t)]) (rest := []) ⟨hx, hb, hml, hown, hts⟩ (c_X5_tideDoes l D cI cO cL b ma (zup σ 0 0 0) H_6 hRH_6 (σ 15 k) t (zInv_th hI 0) (by show 0 ≤ (σ 15 k) ∧ (σ 15 k) < σ 5 0; omega) (by show 0 ≤ t ∧ t < 900000; omega)) (cwV 2 hts gX5_why_X5_tideDoes rfl rfl rfl (by decide +kernel) ⟨Nat.le_of_ble_eq_true rfl, Nat.le_of_ble_eq_true rfl⟩) (zKK_mv D cI cO cL) (fun U _ hv => va_K.moved hv hK) (m_recv hK hRH_6) rfl hl.1 rfl (Nat.le_of_ble_eq_true rfl) dX5_why_66 ⟨Nat.zero_le _, Nat.zero_le _⟩ (fun r_8 hr_8 => ?_)
          rw [hr_8]
          refine z_top (a := bI (zTideOk (zup σ 0 0 0) (σ 15 k) t)) (b := bI (zTideOk σ (σ 15 k) t)) rfl ?_
          refine z_ifb_ne (tgt := 74) hx hb dX5_why_69 (by decide) (fun c_9 => ?_) (fun c_9 => ?_)
          · refine lv_aload_n hx hb dX5_why_74 rfl (lv_at hl 0 rfl) ?_
            refine lv_iload_n hx hb dX5_why_75 rfl (lv_at hl 1 rfl) ?_
            refine lv_iload_n hx hb dX5_why_76 rfl (lv_at hl 2 rfl) ?_
            refine z_cv (As := [.int (zI k), .int (zI t)]) (rest := []) ⟨hx, hb, hml, hown, hts⟩ (c_X5_pilotDoes l D cI cO cL b ma (zup σ 0 0 0) H_6 hRH_6 k t (zInv_th hI 0) (by show 0 ≤ k ∧ k < σ 14 0; omega) (by show 0 ≤ t ∧ t < 1000000; omega)) (cwV 2 hts gX5_why_X5_pilotDoes rfl rfl rfl (by decide +kernel) ⟨Nat.le_of_ble_eq_true rfl, Nat.le_of_ble_eq_true rfl⟩) (zKK_mv D cI cO cL) (fun U _ hv => va_K.moved hv hK) (m_recv hK hRH_6) rfl hl.1 rfl (Nat.le_of_ble_eq_true rfl) dX5_why_77 ⟨Nat.zero_le _, Nat.zero_le _⟩ (fun r_10 hr_10 => ?_)
            rw [hr_10]
            refine z_top (a := bI (zRestOk (zup σ 0 0 0) k t)) (b := bI (zRestOk σ k t)) rfl ?_
            refine z_ifb_ne (tgt := 85) hx hb dX5_why_80 (by decide) (fun c_11 => ?_) (fun c_11 => ?_)
            · refine lv_aload_n hx hb dX5_why_85 rfl (lv_at hl 0 rfl) ?_
              refine lv_iload_n hx hb dX5_why_86 rfl (lv_at hl 1 rfl) ?_
              refine lv_iload_n hx hb dX5_why_87 rfl (lv_at hl 2 rfl) ?_
              refine z_cv (As := [.int (zI k), .int (zI t)]) (rest := []) ⟨hx, hb, hml, hown, hts⟩ (c_X5_tugsDo l D cI cO cL b ma (zup σ 0 0 0) H_6 hRH_6 k t (zInv_th hI 0) (by show 0 ≤ k ∧ k < σ 14 0; omega) (by show 0 ≤ t ∧ t < 900000; omega)) (cwV 2 hts gX5_why_X5_tugsDo rfl rfl rfl (by decide +kernel) ⟨Nat.le_of_ble_eq_true rfl, Nat.le_of_ble_eq_true rfl⟩) (zKK_mv D cI cO cL) (fun U _ hv => va_K.moved hv hK) (m_recv hK hRH_6) rfl hl.1 rfl (Nat.le_of_ble_eq_true rfl) dX5_why_88 ⟨Nat.zero_le _, Nat.zero_le _⟩ (fun r_12 hr_12 => ?_)
              rw [hr_12]
              refine z_top (a := bI (zTugOk (zup σ 0 0 0) k t)) (b := bI (zTugOk σ k t)) rfl ?_
              refine z_ifb_ne (tgt := 98) hx hb dX5_why_91 (by decide) (fun c_13 => ?_) (fun c_13 => ?_)
              · refine lv_aload_n hx hb dX5_why_98 rfl (lv_at hl 0 rfl) ?_
                refine lv_iload_n hx hb dX5_why_99 rfl (lv_at hl 1 rfl) ?_
                refine lv_iload_n hx hb dX5_why_100 rfl (lv_at hl 2 rfl) ?_
                refine z_cv (As := [.int (zI k), .int (zI t)]) (rest := []) ⟨hx, hb, hml, hown, hts⟩ (c_X5_channelDoes l D cI cO cL b ma (zup σ 0 0 0) H_6 hRH_6 k t (zInv_th hI 0) (by show 0 ≤ k ∧ k < σ 14 0; omega) (by show 0 ≤ t ∧ t < 1000000; omega)) (cwV 2 hts gX5_why_X5_channelDoes rfl rfl rfl (by decide +kernel) ⟨Nat.le_of_ble_eq_true rfl, Nat.le_of_ble_eq_true rfl⟩) (zKK_mv D cI cO cL) (fun U _ hv => va_K.moved hv hK) (m_recv hK hRH_6) rfl hl.1 rfl (Nat.le_of_ble_eq_true rfl) dX5_why_101 ⟨Nat.zero_le _, Nat.zero_le _⟩ (fun r_14 hr_14 => ?_)
                rw [hr_14]
                refine z_top (a := bI (zChanOk (zup σ 0 0 0) k t)) (b := bI (zChanOk σ k t)) rfl ?_
                refine z_ifb_eq (tgt := 111) hx hb dX5_why_104 (by decide) (fun c_15 => ?_) (fun c_15 => ?_)
                · refine z_iconst hx hb dX5_why_111 ?_
                  have ht : zth_why σ k t = 0 := by unfold zth_why; (repeat' split) <;> omega
                  exact W.iret hx hb hr (z_endM (post := zPost (zth_why σ k t) (zan_why (zup σ 0 0 0) k t) ((zup σ 0 0 0)) (zup σ 0 0 (zth_why σ k t))) (σ' := (zup σ 0 0 0)) (v := some (.int (zI 4))) (zPost_ok (a := 4) ht (by show _ = zan_why σ k t; unfold zan_why; rw [zIf_f (fun q => q (by assumption)), zIf_f (fun q => q (by assumption)), zIf_f (fun q => q (by assumption)), zIf_f (by assumption)]) (by rfl)) hRH_6 (hzH_6.trans rfl) hSH_6) hSH_6.2.2 dX5_why_112
                · refine z_iconst hx hb dX5_why_107 ?_
                  refine lv_goto (tgt := 112) hx hb dX5_why_108 (by decide) ?_
                  have ht : zth_why σ k t = 0 := by unfold zth_why; (repeat' split) <;> omega
                  exact W.iret hx hb hr (z_endM (post := zPost (zth_why σ k t) (zan_why (zup σ 0 0 0) k t) ((zup σ 0 0 0)) (zup σ 0 0 (zth_why σ k t))) (σ' := (zup σ 0 0 0)) (v := some (.int (zI 0))) (zPost_ok (a := 0) ht (by show _ = zan_why σ k t; unfold zan_why; rw [zIf_f (fun q => q (by assumption)), zIf_f (fun q => q (by assumption)), zIf_f (fun q => q (by assumption)), zIf_t (by assumption)]) (by rfl)) hRH_6 (hzH_6.trans rfl) hSH_6) hSH_6.2.2 dX5_why_112
              · refine z_iconst hx hb dX5_why_94 ?_
                refine lv_goto (tgt := 112) hx hb dX5_why_95 (by decide) ?_
                have ht : zth_why σ k t = 0 := by unfold zth_why; (repeat' split) <;> omega
                exact W.iret hx hb hr (z_endM (post := zPost (zth_why σ k t) (zan_why (zup σ 0 0 0) k t) ((zup σ 0 0 0)) (zup σ 0 0 (zth_why σ k t))) (σ' := (zup σ 0 0 0)) (v := some (.int (zI 3))) (zPost_ok (a := 3) ht (by show _ = zan_why σ k t; unfold zan_why; rw [zIf_f (fun q => q (by assumption)), zIf_f (fun q => q (by assumption)), zIf_t (by assumption)]) (by rfl)) hRH_6 (hzH_6.trans rfl) hSH_6) hSH_6.2.2 dX5_why_112
            · refine z_iconst hx hb dX5_why_83 ?_
              have ht : zth_why σ k t = 0 := by unfold zth_why; (repeat' split) <;> omega
              exact W.iret hx hb hr (z_endM (post := zPost (zth_why σ k t) (zan_why (zup σ 0 0 0) k t) ((zup σ 0 0 0)) (zup σ 0 0 (zth_why σ k t))) (σ' := (zup σ 0 0 0)) (v := some (.int (zI 2))) (zPost_ok (a := 2) ht (by show _ = zan_why σ k t; unfold zan_why; rw [zIf_f (fun q => q (by assumption)), zIf_t (by assumption)]) (by rfl)) hRH_6 (hzH_6.trans rfl) hSH_6) hSH_6.2.2 dX5_why_84
          · refine z_iconst hx hb dX5_why_72 ?_
            have ht : zth_why σ k t = 0 := by unfold zth_why; (repeat' split) <;> omega
            exact W.iret hx hb hr (z_endM (post := zPost (zth_why σ k t) (zan_why (zup σ 0 0 0) k t) ((zup σ 0 0 0)) (zup σ 0 0 (zth_why σ k t))) (σ' := (zup σ 0 0 0)) (v := some (.int (zI 1))) (zPost_ok (a := 1) ht (by show _ = zan_why σ k t; unfold zan_why; rw [zIf_t (by assumption)]) (by rfl)) hRH_6 (hzH_6.trans rfl) hSH_6) hSH_6.2.2 dX5_why_73
        · exact absurd c_7 (by decide)
      · refine z_iconst hx hb dX5_why_41 ?_
        refine lv_goto (tgt := 46) hx hb dX5_why_42 (by decide) ?_
        refine m_put hx hb hts in_X5_why hown hK hR hM va_S.rf 0 (by decide) rfl lk_X5_why_59 rfl rfl rfl rfl dX5_why_46 (fun H_16 locsH_16 hRH_16 hzH_16 hSH_16 => ?_)
        refine lv_aload_n hx hb dX5_why_49 rfl (lv_at hl 0 rfl) ?_
        refine m_get hx hb hts in_X5_why hown hK hRH_16 0 (by decide) lk_X5_why_59 rfl rfl dX5_why_50 ?_
        refine z_top (b := 3) (by rw [zup_s]) ?_
        refine z_if_le (tgt := 58) hx hb dX5_why_53 (by decide) (by omega) (fun c_17 => ?_) (fun c_17 => ?_)
        · exact absurd c_17 (by decide)
        · refine z_iconst hx hb dX5_why_56 ?_
          have ht : zth_why σ k t = 3 := by unfold zth_why; (repeat' split) <;> omega
          exact W.iret hx hb hr (z_endM (post := zPost (zth_why σ k t) (zan_why (zup σ 0 0 0) k t) ((zup σ 0 0 0)) (zup σ 0 0 (zth_why σ k t))) (σ' := (zup σ 0 0 3)) (v := some (.int (zI 0))) (zPost_no (a := 0) ht (by decide)) hRH_16 (hzH_16.trans rfl) hSH_16) hSH_16.2.2 dX5_why_57
    · refine z_iconst hx hb dX5_why_27 ?_
      refine lv_goto (tgt := 46) hx hb dX5_why_28 (by decide) ?_
      refine m_put hx hb hts in_X5_why hown hK hR hM va_S.rf 0 (by decide) rfl lk_X5_why_59 rfl rfl rfl rfl dX5_why_46 (fun H_18 locsH_18 hRH_18 hzH_18 hSH_18 => ?_)
      refine lv_aload_n hx hb dX5_why_49 rfl (lv_at hl 0 rfl) ?_
      refine m_get hx hb hts in_X5_why hown hK hRH_18 0 (by decide) lk_X5_why_59 rfl rfl dX5_why_50 ?_
      refine z_top (b := 2) (by rw [zup_s]) ?_
      refine z_if_le (tgt := 58) hx hb dX5_why_53 (by decide) (by omega) (fun c_19 => ?_) (fun c_19 => ?_)
      · exact absurd c_19 (by decide)
      · refine z_iconst hx hb dX5_why_56 ?_
        have ht : zth_why σ k t = 2 := by unfold zth_why; (repeat' split) <;> omega
        exact W.iret hx hb hr (z_endM (post := zPost (zth_why σ k t) (zan_why (zup σ 0 0 0) k t) ((zup σ 0 0 0)) (zup σ 0 0 (zth_why σ k t))) (σ' := (zup σ 0 0 2)) (v := some (.int (zI 0))) (zPost_no (a := 0) ht (by decide)) hRH_18 (hzH_18.trans rfl) hSH_18) hSH_18.2.2 dX5_why_57
  · refine z_iconst hx hb dX5_why_9 ?_
    refine lv_goto (tgt := 46) hx hb dX5_why_10 (by decide) ?_
    refine m_put hx hb hts in_X5_why hown hK hR hM va_S.rf 0 (by decide) rfl lk_X5_why_59 rfl rfl rfl rfl dX5_why_46 (fun H_20 locsH_20 hRH_20 hzH_20 hSH_20 => ?_)
    refine lv_aload_n hx hb dX5_why_49 rfl (lv_at hl 0 rfl) ?_
    refine m_get hx hb hts in_X5_why hown hK hRH_20 0 (by decide) lk_X5_why_59 rfl rfl dX5_why_50 ?_
    refine z_top (b := 1) (by rw [zup_s]) ?_
    refine z_if_le (tgt := 58) hx hb dX5_why_53 (by decide) (by omega) (fun c_21 => ?_) (fun c_21 => ?_)
    · exact absurd c_21 (by decide)
    · refine z_iconst hx hb dX5_why_56 ?_
      have ht : zth_why σ k t = 1 := by unfold zth_why; (repeat' split) <;> omega
      exact W.iret hx hb hr (z_endM (post := zPost (zth_why σ k t) (zan_why (zup σ 0 0 0) k t) ((zup σ 0 0 0)) (zup σ 0 0 (zth_why σ k t))) (σ' := (zup σ 0 0 1)) (v := some (.int (zI 0))) (zPost_no (a := 0) ht (by decide)) hRH_20 (hzH_20.trans rfl) hSH_20) hSH_20.2.2 dX5_why_57

theorem lk_X5_rested_59 : Cond.fieldLink RX5 59 "HarbourPilotlineModel" "thrown" "I" ∈ wsX5_rested := by decide +kernel
theorem lk_X5_rested_92 : Cond.fieldLink RX5 92 "HarbourPilotlineModel" "now" "I" ∈ wsX5_rested := by decide +kernel
theorem lk_X5_rested_71 : Cond.fieldLink RX5 71 "HarbourPilotlineModel" "conferences" "I" ∈ wsX5_rested := by decide +kernel
theorem lk_X5_rested_50 : Cond.fieldLink RX5 50 "HarbourPilotlineModel" "pilot" "[I" ∈ wsX5_rested := by decide +kernel
theorem lk_X5_rested_26 : Cond.fieldLink RX5 26 "HarbourPilotlineModel" "takes" "[I" ∈ wsX5_rested := by decide +kernel
theorem lk_X5_rested_41 : Cond.fieldLink RX5 41 "HarbourPilotlineModel" "ship" "[I" ∈ wsX5_rested := by decide +kernel
theorem in_X5_rested : ∀ w ∈ wsX50, w ∈ wsX5_rested := by decide +kernel
set_option maxRecDepth 100000 in
set_option maxHeartbeats 4000000 in
theorem c_X5_rested (l : Launch) (D : va_G) (cI cO cL : ClassId) (b : Nat) (ma : Nat → Nat) (hM : MA b ma) (σ : zT) (H0 : Heap) (hR : RM D cI b ma σ H0) (k : Int) (hI : zInv σ) (hk : (-2147483648 ≤ k ∧ k < 2147483648)) : zWM l yX5_rested wsX5_rested ({ frames := 2, cells := 0, slots := 0, locals := 43 }) D cI cO cL b ma [.ref b, .int (zI k)] H0 (zPost (zth_pil σ k) (zan_rested (zup σ 0 0 0) k) ((zup σ 0 0 0)) (zup σ 0 0 (zth_pil σ k))) := by
  refine Met.ofW (cc := cX5_rested) (maxL := 5) (ret := (some .int)) (by decide) rfl ?_
  intro p e s m args below meth c s₁ B hml hv
  obtain ⟨rfl, hH, hK⟩ := hv
  subst hH
  have hx := B.exec
  have hb := B.bytes
  have hr := B.returns
  have hts := atoms_spec (ws := wsX5_rested) B.pre
  have hown : s.vm.findClass RX5 = some m.cls := findClass_of_methodNamed B.named
  have hlocks := B.notSynchronized
  have hl := lv_entry ([.ref b, .int (zI k)]) (n := 5) (Nat.le_of_ble_eq_true rfl)
  rw [lg_entry_eq]
  generalize (lg_sl ([.ref b, .int (zI k)]) ++ List.replicate (5 - (lg_sl ([.ref b, .int (zI k)])).length) Slot.unset).toArray = ls at hl ⊢
  have hl : lv_has ls 5 [(0, .ref b), (1, .int (zI k))] := hl
  have f0 := hI.r
  refine lv_aload_n hx hb dX5_rested_0 rfl (lv_at hl 0 rfl) ?_
  refine lv_aload_n hx hb dX5_rested_1 rfl (lv_at hl 0 rfl) ?_
  refine lv_iload_n hx hb dX5_rested_2 rfl (lv_at hl 1 rfl) ?_
  refine z_cv (As := [.int (zI k)]) (rest := [.ref b]) ⟨hx, hb, hml, hown, hts⟩ (c_X5_isPilot l D cI cO cL b ma σ s.heap hR k (by omega) (by omega)) (cwV 1 hts gX5_rested_X5_isPilot rfl rfl rfl (by decide +kernel) ⟨Nat.le_of_ble_eq_true rfl, Nat.le_of_ble_eq_true rfl⟩) (zKK_mv D cI cO cL) (fun U _ hv => va_K.moved hv hK) (m_recv hK hR) rfl hl.1 rfl (Nat.le_of_ble_eq_true rfl) dX5_rested_3 ⟨Nat.zero_le _, Nat.zero_le _⟩ (fun r_1 hr_1 => ?_)
  rw [hr_1]
  refine z_ifb_eq (tgt := 13) hx hb dX5_rested_6 (by decide) (fun c_2 => ?_) (fun c_2 => ?_)
  · refine z_iconst hx hb dX5_rested_13 ?_
    refine m_put hx hb hts in_X5_rested hown hK hR hM va_S.rf 0 (by decide) rfl lk_X5_rested_59 rfl rfl rfl rfl dX5_rested_14 (fun H_3 locsH_3 hRH_3 hzH_3 hSH_3 => ?_)
    refine lv_aload_n hx hb dX5_rested_17 rfl (lv_at hl 0 rfl) ?_
    refine m_get hx hb hts in_X5_rested hown hK hRH_3 1 (by decide) lk_X5_rested_92 rfl rfl dX5_rested_18 ?_
    refine z_top (b := σ 1 0) (by rw [zup_t (t := 0) (t' := 1) (by decide)]) ?_
    refine lv_istore_n (lv' := [(2, .int (zI (σ 1 0))), (0, .ref b), (1, .int (zI k))]) hx hb dX5_rested_21 rfl hl (by decide) rfl (fun ls hl => ?_)
    refine z_iconst hx hb dX5_rested_22 ?_
    refine lv_istore_n (lv' := [(3, .int (zI 0)), (2, .int (zI (σ 1 0))), (0, .ref b), (1, .int (zI k))]) hx hb dX5_rested_23 rfl hl (by decide) rfl (fun ls hl => ?_)
    refine lv_iload_n hx hb dX5_rested_24 rfl (lv_at hl 0 rfl) ?_
    refine lv_aload_n hx hb dX5_rested_25 rfl (lv_at hl 2 rfl) ?_
    refine m_get hx hb hts in_X5_rested hown hK hRH_3 14 (by decide) lk_X5_rested_71 rfl rfl dX5_rested_26 ?_
    refine z_top (b := σ 14 0) (by rw [zup_t (t := 0) (t' := 14) (by decide)]) ?_
    refine z_icmp_ge (tgt := 102) hx hb dX5_rested_29 (by decide) (by omega) (fun c_4 => ?_) (fun c_4 => ?_)
    · refine lv_aload_n hx hb dX5_rested_102 rfl (lv_at hl 2 rfl) ?_
      refine m_get hx hb hts in_X5_rested hown hK hRH_3 0 (by decide) lk_X5_rested_59 rfl rfl dX5_rested_103 ?_
      refine z_top (b := 1) (by rw [zup_s]) ?_
      refine z_if_le (tgt := 113) hx hb dX5_rested_106 (by decide) (by omega) (fun c_5 => ?_) (fun c_5 => ?_)
      · exact absurd c_5 (by decide)
      · refine z_iconst hx hb dX5_rested_109 ?_
        refine lv_goto (tgt := 114) hx hb dX5_rested_110 (by decide) ?_
        have ht : zth_pil σ k = 1 := by unfold zth_pil; (repeat' split) <;> omega
        exact W.iret hx hb hr (z_endM (post := zPost (zth_pil σ k) (zan_rested (zup σ 0 0 0) k) ((zup σ 0 0 0)) (zup σ 0 0 (zth_pil σ k))) (σ' := (zup σ 0 0 1)) (v := some (.int (zI 0))) (zPost_no (a := 0) ht (by decide)) hRH_3 (hzH_3.trans rfl) hSH_3) hSH_3.2.2 dX5_rested_114
    · refine lv_aload_n hx hb dX5_rested_32 rfl (lv_at hl 2 rfl) ?_
      refine m_get hx hb hts in_X5_rested hown hK hRH_3 0 (by decide) lk_X5_rested_59 rfl rfl dX5_rested_33 ?_
      refine z_top (b := 1) (by rw [zup_s]) ?_
      refine z_if_ne (tgt := 102) hx hb dX5_rested_36 (by decide) (by omega) (fun c_6 => ?_) (fun c_6 => ?_)
      · refine lv_aload_n hx hb dX5_rested_102 rfl (lv_at hl 2 rfl) ?_
        refine m_get hx hb hts in_X5_rested hown hK hRH_3 0 (by decide) lk_X5_rested_59 rfl rfl dX5_rested_103 ?_
        refine z_top (b := 1) (by rw [zup_s]) ?_
        refine z_if_le (tgt := 113) hx hb dX5_rested_106 (by decide) (by omega) (fun c_7 => ?_) (fun c_7 => ?_)
        · exact absurd c_7 (by decide)
        · refine z_iconst hx hb dX5_rested_109 ?_
          refine lv_goto (tgt := 114) hx hb dX5_rested_110 (by decide) ?_
          have ht : zth_pil σ k = 1 := by unfold zth_pil; (repeat' split) <;> omega
          exact W.iret hx hb hr (z_endM (post := zPost (zth_pil σ k) (zan_rested (zup σ 0 0 0) k) ((zup σ 0 0 0)) (zup σ 0 0 (zth_pil σ k))) (σ' := (zup σ 0 0 1)) (v := some (.int (zI 0))) (zPost_no (a := 0) ht (by decide)) hRH_3 (hzH_3.trans rfl) hSH_3) hSH_3.2.2 dX5_rested_114
      · exact absurd c_6 (by decide)
  · refine z_iconst hx hb dX5_rested_9 ?_
    refine lv_goto (tgt := 14) hx hb dX5_rested_10 (by decide) ?_
    refine m_put hx hb hts in_X5_rested hown hK hR hM va_S.rf 0 (by decide) rfl lk_X5_rested_59 rfl rfl rfl rfl dX5_rested_14 (fun H_8 locsH_8 hRH_8 hzH_8 hSH_8 => ?_)
    refine lv_aload_n hx hb dX5_rested_17 rfl (lv_at hl 0 rfl) ?_
    refine m_get hx hb hts in_X5_rested hown hK hRH_8 1 (by decide) lk_X5_rested_92 rfl rfl dX5_rested_18 ?_
    refine z_top (b := σ 1 0) (by rw [zup_t (t := 0) (t' := 1) (by decide)]) ?_
    refine lv_istore_n (lv' := [(2, .int (zI (σ 1 0))), (0, .ref b), (1, .int (zI k))]) hx hb dX5_rested_21 rfl hl (by decide) rfl (fun ls hl => ?_)
    refine z_iconst hx hb dX5_rested_22 ?_
    refine lv_istore_n (lv' := [(3, .int (zI 0)), (2, .int (zI (σ 1 0))), (0, .ref b), (1, .int (zI k))]) hx hb dX5_rested_23 rfl hl (by decide) rfl (fun ls hl => ?_)
    refine z_cap (fun WW wi wo => ?_)
    have hL : ∀ (n : Nat) (v i : Int) (ls : Array Slot) (HL : Heap) (locsL : List Loc), v = zRsd σ k i.toNat → 0 ≤ i ∧ i ≤ σ 14 0 → 0 ≤ v ∧ v ≤ 100000 → RM D cI b ma (zup σ 0 0 0) HL → HL.size = s.heap.size → va_S (AM b ma) s.heap HL locsL → (σ 14 0 - i).toNat < n → lv_has ls 5 [(0, .ref b), (1, .int (zI k)), (2, .int (zI v)), (3, .int (zI i))] → WW HL locsL 0 0 (F0 m 24 ls []) := by
      intro n
      induction n with
      | zero => intro v i ls HL locsL hv hi hb2 hRL hzL hSL hm; exact absurd hm (Nat.not_lt_zero _)
      | succ n ih =>
        intro v i ls HL locsL hv hi hb2 hRL hzL hSL hm hl
        refine wi _ _ _ _ _ ?_
        refine lv_iload_n hx hb dX5_rested_24 rfl (lv_at hl 3 rfl) ?_
        refine lv_aload_n hx hb dX5_rested_25 rfl (lv_at hl 0 rfl) ?_
        refine m_get hx hb hts in_X5_rested hown hK hRL 14 (by decide) lk_X5_rested_71 rfl rfl dX5_rested_26 ?_
        refine z_top (b := σ 14 0) (by rw [zup_t (t := 0) (t' := 14) (by decide)]) ?_
        refine z_icmp_ge (tgt := 102) hx hb dX5_rested_29 (by decide) (by omega) (fun c_9 => ?_) (fun c_9 => ?_)
        · refine lv_aload_n hx hb dX5_rested_102 rfl (lv_at hl 0 rfl) ?_
          refine m_get hx hb hts in_X5_rested hown hK hRL 0 (by decide) lk_X5_rested_59 rfl rfl dX5_rested_103 ?_
          refine z_top (b := 0) (by rw [zup_s]) ?_
          refine z_if_le (tgt := 113) hx hb dX5_rested_106 (by decide) (by omega) (fun c_10 => ?_) (fun c_10 => ?_)
          · refine lv_iload_n hx hb dX5_rested_113 rfl (lv_at hl 2 rfl) ?_
            have ht : zth_pil σ k = 0 := by unfold zth_pil; (repeat' split) <;> omega
            exact W.iret hx hb hr (z_endM (post := zPost (zth_pil σ k) (zan_rested (zup σ 0 0 0) k) ((zup σ 0 0 0)) (zup σ 0 0 (zth_pil σ k))) (σ' := (zup σ 0 0 0)) (v := some (.int (zI v))) (zPost_ok (a := v) ht (by show v = zRsd (zup σ 0 0 0) k (σ 14 0).toNat; rw [zRsd_th, hv, show i = σ 14 0 by omega]) rfl) hRL hzL hSL) hSL.2.2 dX5_rested_114
          · exact absurd c_10 (by decide)
        · have fi := hI.c (i := i) (by omega)
          have gi := hI.s (i := σ 15 i) (by omega)
          have ri := zRest_r (σ 8 (σ 15 i))
          refine lv_aload_n hx hb dX5_rested_32 rfl (lv_at hl 0 rfl) ?_
          refine m_get hx hb hts in_X5_rested hown hK hRL 0 (by decide) lk_X5_rested_59 rfl rfl dX5_rested_33 ?_
          refine z_top (b := 0) (by rw [zup_s]) ?_
          refine z_if_ne (tgt := 102) hx hb dX5_rested_36 (by decide) (by omega) (fun c_11 => ?_) (fun c_11 => ?_)
          · exact absurd c_11 (by decide)
          · refine lv_aload_n hx hb dX5_rested_39 rfl (lv_at hl 0 rfl) ?_
            refine lv_iload_n hx hb dX5_rested_40 rfl (lv_at hl 3 rfl) ?_
            refine z_cv (As := [.int (zI i)]) (rest := []) ⟨hx, hb, hml, hown, hts⟩ (c_X5_hasSlot l D cI cO cL b ma (zup σ 0 0 0) HL hRL i (zInv_th hI 0) (by show 0 ≤ i ∧ i < σ 14 0; omega)) (cwV 1 hts gX5_rested_X5_hasSlot rfl rfl rfl (by decide +kernel) ⟨Nat.le_of_ble_eq_true rfl, Nat.le_of_ble_eq_true rfl⟩) (zKK_mv D cI cO cL) (fun U _ hv => va_K.moved hv hK) (m_recv hK hRL) rfl hl.1 rfl (Nat.le_of_ble_eq_true rfl) dX5_rested_41 ⟨Nat.zero_le _, Nat.zero_le _⟩ (fun r_12 hr_12 => ?_)
            rw [hr_12]
            refine z_top (a := bI (2 ≤ (zup σ 0 0 0) 19 i)) (b := bI (2 ≤ σ 19 i)) rfl ?_
            refine z_ifb_eq (tgt := 80) hx hb dX5_rested_44 (by decide) (fun c_13 => ?_) (fun c_13 => ?_)
            · refine z_iconst hx hb dX5_rested_80 ?_
              refine lv_istore (lv' := [(4, .int (zI 0)), (0, .ref b), (1, .int (zI k)), (2, .int (zI v)), (3, .int (zI i))]) hx hb dX5_rested_81 hl (by decide) rfl (fun ls hl => ?_)
              refine lv_iload hx hb dX5_rested_83 (lv_at hl 0 rfl) ?_
              refine lv_iload_n hx hb dX5_rested_85 rfl (lv_at hl 3 rfl) ?_
              refine z_icmp_le (tgt := 94) hx hb dX5_rested_86 (by decide) (by omega) (fun c_14 => ?_) (fun c_14 => ?_)
              · refine lv_iload_n hx hb dX5_rested_94 rfl (lv_at hl 3 rfl) ?_
                refine lv_istore_n (lv' := [(2, .int (zI v)), (4, .int (zI 0)), (0, .ref b), (1, .int (zI k)), (3, .int (zI i))]) hx hb dX5_rested_95 rfl hl (by decide) rfl (fun ls hl => ?_)
                refine z_iinc (lv' := [(3, .int (zI (i + 1))), (2, .int (zI v)), (4, .int (zI 0)), (0, .ref b), (1, .int (zI k))]) hx hb dX5_rested_96 hl (k := 4) rfl (by decide) rfl (fun ls hl => ?_)
                refine lv_goto (tgt := 24) hx hb dX5_rested_99 (by decide) ?_
                exact wo _ _ _ _ _ (ih v (i + 1) ls _ _ (by rw [zRsd_i _ _ hi.1, ← hv]; unfold zOv zTk; first | (exfalso; omega) | rw [if_pos (by omega)] | rw [if_neg (by omega)]) (by omega) (by omega) (by exact hRL) hzL hSL (by omega) (lv_sub hl [3, 4, 1, 0] rfl))
              · refine lv_iload hx hb dX5_rested_89 (lv_at hl 0 rfl) ?_
                refine lv_goto (tgt := 95) hx hb dX5_rested_91 (by decide) ?_
                refine lv_istore_n (lv' := [(2, .int (zI 0)), (4, .int (zI 0)), (0, .ref b), (1, .int (zI k)), (3, .int (zI i))]) hx hb dX5_rested_95 rfl hl (by decide) rfl (fun ls hl => ?_)
                refine z_iinc (lv' := [(3, .int (zI (i + 1))), (2, .int (zI 0)), (4, .int (zI 0)), (0, .ref b), (1, .int (zI k))]) hx hb dX5_rested_96 hl (k := 4) rfl (by decide) rfl (fun ls hl => ?_)
                refine lv_goto (tgt := 24) hx hb dX5_rested_99 (by decide) ?_
                exact wo _ _ _ _ _ (ih 0 (i + 1) ls _ _ (by rw [zRsd_i _ _ hi.1, ← hv]; unfold zOv zTk; first | (exfalso; omega) | rw [if_pos (by omega)] | rw [if_neg (by omega)]) (by omega) (by omega) (by exact hRL) hzL hSL (by omega) (lv_sub hl [3, 4, 1, 0] rfl))
            · refine lv_aload_n hx hb dX5_rested_47 rfl (lv_at hl 0 rfl) ?_
              refine m_get hx hb hts in_X5_rested hown hK hRL 18 (by decide) lk_X5_rested_50 rfl rfl dX5_rested_48 ?_
              refine lv_iload_n hx hb dX5_rested_51 rfl (lv_at hl 3 rfl) ?_
              refine m_ald hx hb hK hRL 18 rfl (by show 0 ≤ i ∧ i < ((40 : Nat) : Int); omega) dX5_rested_52 ?_
              refine z_top (b := σ 18 i) (by rw [zup_t (t := 0) (t' := 18) (by decide)]) ?_
              refine lv_iload_n hx hb dX5_rested_53 rfl (lv_at hl 1 rfl) ?_
              refine z_icmp_ne (tgt := 80) hx hb dX5_rested_54 (by decide) (by omega) (fun c_15 => ?_) (fun c_15 => ?_)
              · refine z_iconst hx hb dX5_rested_80 ?_
                refine lv_istore (lv' := [(4, .int (zI 0)), (0, .ref b), (1, .int (zI k)), (2, .int (zI v)), (3, .int (zI i))]) hx hb dX5_rested_81 hl (by decide) rfl (fun ls hl => ?_)
                refine lv_iload hx hb dX5_rested_83 (lv_at hl 0 rfl) ?_
                refine lv_iload_n hx hb dX5_rested_85 rfl (lv_at hl 3 rfl) ?_
                refine z_icmp_le (tgt := 94) hx hb dX5_rested_86 (by decide) (by omega) (fun c_16 => ?_) (fun c_16 => ?_)
                · refine lv_iload_n hx hb dX5_rested_94 rfl (lv_at hl 3 rfl) ?_
                  refine lv_istore_n (lv' := [(2, .int (zI v)), (4, .int (zI 0)), (0, .ref b), (1, .int (zI k)), (3, .int (zI i))]) hx hb dX5_rested_95 rfl hl (by decide) rfl (fun ls hl => ?_)
                  refine z_iinc (lv' := [(3, .int (zI (i + 1))), (2, .int (zI v)), (4, .int (zI 0)), (0, .ref b), (1, .int (zI k))]) hx hb dX5_rested_96 hl (k := 4) rfl (by decide) rfl (fun ls hl => ?_)
                  refine lv_goto (tgt := 24) hx hb dX5_rested_99 (by decide) ?_
                  exact wo _ _ _ _ _ (ih v (i + 1) ls _ _ (by rw [zRsd_i _ _ hi.1, ← hv]; unfold zOv zTk; first | (exfalso; omega) | rw [if_pos (by omega)] | rw [if_neg (by omega)]) (by omega) (by omega) (by exact hRL) hzL hSL (by omega) (lv_sub hl [3, 4, 1, 0] rfl))
                · refine lv_iload hx hb dX5_rested_89 (lv_at hl 0 rfl) ?_
                  refine lv_goto (tgt := 95) hx hb dX5_rested_91 (by decide) ?_
                  refine lv_istore_n (lv' := [(2, .int (zI 0)), (4, .int (zI 0)), (0, .ref b), (1, .int (zI k)), (3, .int (zI i))]) hx hb dX5_rested_95 rfl hl (by decide) rfl (fun ls hl => ?_)
                  refine z_iinc (lv' := [(3, .int (zI (i + 1))), (2, .int (zI 0)), (4, .int (zI 0)), (0, .ref b), (1, .int (zI k))]) hx hb dX5_rested_96 hl (k := 4) rfl (by decide) rfl (fun ls hl => ?_)
                  refine lv_goto (tgt := 24) hx hb dX5_rested_99 (by decide) ?_
                  exact wo _ _ _ _ _ (ih 0 (i + 1) ls _ _ (by rw [zRsd_i _ _ hi.1, ← hv]; unfold zOv zTk; first | (exfalso; omega) | rw [if_pos (by omega)] | rw [if_neg (by omega)]) (by omega) (by omega) (by exact hRL) hzL hSL (by omega) (lv_sub hl [3, 4, 1, 0] rfl))
              · refine lv_aload_n hx hb dX5_rested_57 rfl (lv_at hl 0 rfl) ?_
                refine lv_iload_n hx hb dX5_rested_58 rfl (lv_at hl 3 rfl) ?_
                refine z_cv (As := [.int (zI i)]) (rest := []) ⟨hx, hb, hml, hown, hts⟩ (c_X5_over l D cI cO cL b ma (zup σ 0 0 0) HL hRL i (by show 0 ≤ i ∧ i < 40; omega) (by show 0 ≤ σ 15 i ∧ σ 15 i < 12; omega)) (cwV 1 hts gX5_rested_X5_over rfl rfl rfl (by decide +kernel) ⟨Nat.le_of_ble_eq_true rfl, Nat.le_of_ble_eq_true rfl⟩) (zKK_mv D cI cO cL) (fun U _ hv => va_K.moved hv hK) (m_recv hK hRL) rfl hl.1 rfl (Nat.le_of_ble_eq_true rfl) dX5_rested_59 ⟨Nat.zero_le _, Nat.zero_le _⟩ (fun r_17 hr_17 => ?_)
                rw [hr_17]
                refine z_top (a := (zup σ 0 0 0) 20 i + (zup σ 0 0 0) 8 ((zup σ 0 0 0) 15 i)) (b := σ 20 i + σ 8 (σ 15 i)) rfl ?_
                refine lv_aload_n hx hb dX5_rested_62 rfl (lv_at hl 0 rfl) ?_
                refine m_get hx hb hts in_X5_rested hown hK hRL 8 (by decide) lk_X5_rested_26 rfl rfl dX5_rested_63 ?_
                refine lv_aload_n hx hb dX5_rested_66 rfl (lv_at hl 0 rfl) ?_
                refine m_get hx hb hts in_X5_rested hown hK hRL 15 (by decide) lk_X5_rested_41 rfl rfl dX5_rested_67 ?_
                refine lv_iload_n hx hb dX5_rested_70 rfl (lv_at hl 3 rfl) ?_
                refine m_ald hx hb hK hRL 15 rfl (by show 0 ≤ i ∧ i < ((40 : Nat) : Int); omega) dX5_rested_71 ?_
                refine z_top (b := σ 15 i) (by rw [zup_t (t := 0) (t' := 15) (by decide)]) ?_
                refine m_ald hx hb hK hRL 8 rfl (by show 0 ≤ (σ 15 i) ∧ (σ 15 i) < ((12 : Nat) : Int); omega) dX5_rested_72 ?_
                refine z_top (b := σ 8 (σ 15 i)) (by rw [zup_t (t := 0) (t' := 8) (by decide)]) ?_
                refine z_cs (As := [.int (zI (σ 8 (σ 15 i)))]) (rest := [.int (zI (σ 20 i + σ 8 (σ 15 i)))]) ⟨hx, hb, hml, hown, hts⟩ (c_X5_rest l D cI cO cL b ma (zup σ 0 0 0) HL hRL (σ 8 (σ 15 i)) (by show (-2147483648 ≤ (σ 8 (σ 15 i)) ∧ (σ 8 (σ 15 i)) < 2147483648); omega)) (va_cwS 1 hts gX5_rested_X5_rest rfl rfl rfl (by decide +kernel) ⟨Nat.le_of_ble_eq_true rfl, Nat.le_of_ble_eq_true rfl⟩) (zKK_mv D cI cO cL) (fun U _ hv => va_K.moved hv hK) rfl hl.1 rfl (Nat.le_of_ble_eq_true rfl) dX5_rested_73 ⟨Nat.zero_le _, Nat.zero_le _⟩ (fun r_18 hr_18 => ?_)
                rw [hr_18]
                refine z_iadd hx hb dX5_rested_76 ?_
                refine lv_goto (tgt := 81) hx hb dX5_rested_77 (by decide) ?_
                refine lv_istore (lv' := [(4, .int (zI ((σ 20 i + σ 8 (σ 15 i)) + (zRest (σ 8 (σ 15 i)))))), (0, .ref b), (1, .int (zI k)), (2, .int (zI v)), (3, .int (zI i))]) hx hb dX5_rested_81 hl (by decide) rfl (fun ls hl => ?_)
                refine lv_iload hx hb dX5_rested_83 (lv_at hl 0 rfl) ?_
                refine lv_iload_n hx hb dX5_rested_85 rfl (lv_at hl 3 rfl) ?_
                refine z_icmp_le (tgt := 94) hx hb dX5_rested_86 (by decide) (by omega) (fun c_19 => ?_) (fun c_19 => ?_)
                · refine lv_iload_n hx hb dX5_rested_94 rfl (lv_at hl 3 rfl) ?_
                  refine lv_istore_n (lv' := [(2, .int (zI v)), (4, .int (zI ((σ 20 i + σ 8 (σ 15 i)) + (zRest (σ 8 (σ 15 i)))))), (0, .ref b), (1, .int (zI k)), (3, .int (zI i))]) hx hb dX5_rested_95 rfl hl (by decide) rfl (fun ls hl => ?_)
                  refine z_iinc (lv' := [(3, .int (zI (i + 1))), (2, .int (zI v)), (4, .int (zI ((σ 20 i + σ 8 (σ 15 i)) + (zRest (σ 8 (σ 15 i)))))), (0, .ref b), (1, .int (zI k))]) hx hb dX5_rested_96 hl (k := 4) rfl (by decide) rfl (fun ls hl => ?_)
                  refine lv_goto (tgt := 24) hx hb dX5_rested_99 (by decide) ?_
                  exact wo _ _ _ _ _ (ih v (i + 1) ls _ _ (by rw [zRsd_i _ _ hi.1, ← hv]; unfold zOv zTk; first | (exfalso; omega) | rw [if_pos (by omega)] | rw [if_neg (by omega)]) (by omega) (by omega) (by exact hRL) hzL hSL (by omega) (lv_sub hl [3, 4, 1, 0] rfl))
                · refine lv_iload hx hb dX5_rested_89 (lv_at hl 0 rfl) ?_
                  refine lv_goto (tgt := 95) hx hb dX5_rested_91 (by decide) ?_
                  refine lv_istore_n (lv' := [(2, .int (zI ((σ 20 i + σ 8 (σ 15 i)) + (zRest (σ 8 (σ 15 i)))))), (4, .int (zI ((σ 20 i + σ 8 (σ 15 i)) + (zRest (σ 8 (σ 15 i)))))), (0, .ref b), (1, .int (zI k)), (3, .int (zI i))]) hx hb dX5_rested_95 rfl hl (by decide) rfl (fun ls hl => ?_)
                  refine z_iinc (lv' := [(3, .int (zI (i + 1))), (2, .int (zI ((σ 20 i + σ 8 (σ 15 i)) + (zRest (σ 8 (σ 15 i)))))), (4, .int (zI ((σ 20 i + σ 8 (σ 15 i)) + (zRest (σ 8 (σ 15 i)))))), (0, .ref b), (1, .int (zI k))]) hx hb dX5_rested_96 hl (k := 4) rfl (by decide) rfl (fun ls hl => ?_)
                  refine lv_goto (tgt := 24) hx hb dX5_rested_99 (by decide) ?_
                  exact wo _ _ _ _ _ (ih ((σ 20 i + σ 8 (σ 15 i)) + (zRest (σ 8 (σ 15 i)))) (i + 1) ls _ _ (by rw [zRsd_i _ _ hi.1, ← hv]; unfold zOv zTk; first | (exfalso; omega) | rw [if_pos (by omega)] | rw [if_neg (by omega)]) (by omega) (by omega) (by exact hRL) hzL hSL (by omega) (lv_sub hl [3, 4, 1, 0] rfl))
    exact wo _ _ _ _ _ (hL _ (σ 1 0) 0 ls _ _ (by rfl) (by omega) (by omega) (by exact hRH_8) (hzH_8.trans rfl) hSH_8 (Nat.lt_succ_self _) (lv_sub hl [2, 3, 1, 0] rfl))

theorem lk_X5_bill_59 : Cond.fieldLink RX5 59 "HarbourPilotlineModel" "thrown" "I" ∈ wsX5_bill := by decide +kernel
theorem lk_X5_bill_32 : Cond.fieldLink RX5 32 "HarbourPilotlineModel" "owes" "[I" ∈ wsX5_bill := by decide +kernel
theorem in_X5_bill : ∀ w ∈ wsX50, w ∈ wsX5_bill := by decide +kernel
set_option maxRecDepth 100000 in
set_option maxHeartbeats 4000000 in
theorem c_X5_bill (l : Launch) (D : va_G) (cI cO cL : ClassId) (b : Nat) (ma : Nat → Nat) (hM : MA b ma) (σ : zT) (H0 : Heap) (hR : RM D cI b ma σ H0) (k : Int) (hI : zInv σ) (hk : (-2147483648 ≤ k ∧ k < 2147483648)) : zWM l yX5_bill wsX5_bill ({ frames := 2, cells := 0, slots := 0, locals := 43 }) D cI cO cL b ma [.ref b, .int (zI k)] H0 (zPost (zth_bill σ k) (σ 10 k) ((zup σ 0 0 0)) (zup σ 0 0 (zth_bill σ k))) := by
  refine Met.ofW (cc := cX5_bill) (maxL := 2) (ret := (some .int)) (by decide) rfl ?_
  intro p e s m args below meth c s₁ B hml hv
  obtain ⟨rfl, hH, hK⟩ := hv
  subst hH
  have hx := B.exec
  have hb := B.bytes
  have hr := B.returns
  have hts := atoms_spec (ws := wsX5_bill) B.pre
  have hown : s.vm.findClass RX5 = some m.cls := findClass_of_methodNamed B.named
  have hlocks := B.notSynchronized
  have hl := lv_entry ([.ref b, .int (zI k)]) (n := 2) (Nat.le_of_ble_eq_true rfl)
  rw [lg_entry_eq]
  generalize (lg_sl ([.ref b, .int (zI k)]) ++ List.replicate (2 - (lg_sl ([.ref b, .int (zI k)])).length) Slot.unset).toArray = ls at hl ⊢
  have hl : lv_has ls 2 [(0, .ref b), (1, .int (zI k))] := hl
  have f0 := hI.r
  refine lv_aload_n hx hb dX5_bill_0 rfl (lv_at hl 0 rfl) ?_
  refine lv_aload_n hx hb dX5_bill_1 rfl (lv_at hl 0 rfl) ?_
  refine lv_iload_n hx hb dX5_bill_2 rfl (lv_at hl 1 rfl) ?_
  refine z_cv (As := [.int (zI k)]) (rest := [.ref b]) ⟨hx, hb, hml, hown, hts⟩ (c_X5_isShip l D cI cO cL b ma σ s.heap hR k (by omega) (by omega)) (cwV 1 hts gX5_bill_X5_isShip rfl rfl rfl (by decide +kernel) ⟨Nat.le_of_ble_eq_true rfl, Nat.le_of_ble_eq_true rfl⟩) (zKK_mv D cI cO cL) (fun U _ hv => va_K.moved hv hK) (m_recv hK hR) rfl hl.1 rfl (Nat.le_of_ble_eq_true rfl) dX5_bill_3 ⟨Nat.zero_le _, Nat.zero_le _⟩ (fun r_1 hr_1 => ?_)
  rw [hr_1]
  refine z_ifb_eq (tgt := 13) hx hb dX5_bill_6 (by decide) (fun c_2 => ?_) (fun c_2 => ?_)
  · refine z_iconst hx hb dX5_bill_13 ?_
    refine m_put hx hb hts in_X5_bill hown hK hR hM va_S.rf 0 (by decide) rfl lk_X5_bill_59 rfl rfl rfl rfl dX5_bill_14 (fun H_3 locsH_3 hRH_3 hzH_3 hSH_3 => ?_)
    refine lv_aload_n hx hb dX5_bill_17 rfl (lv_at hl 0 rfl) ?_
    refine m_get hx hb hts in_X5_bill hown hK hRH_3 0 (by decide) lk_X5_bill_59 rfl rfl dX5_bill_18 ?_
    refine z_top (b := 1) (by rw [zup_s]) ?_
    refine z_if_le (tgt := 28) hx hb dX5_bill_21 (by decide) (by omega) (fun c_4 => ?_) (fun c_4 => ?_)
    · exact absurd c_4 (by decide)
    · refine z_iconst hx hb dX5_bill_24 ?_
      refine lv_goto (tgt := 34) hx hb dX5_bill_25 (by decide) ?_
      have ht : zth_bill σ k = 1 := by unfold zth_bill; (repeat' split) <;> omega
      exact W.iret hx hb hr (z_endM (post := zPost (zth_bill σ k) (σ 10 k) ((zup σ 0 0 0)) (zup σ 0 0 (zth_bill σ k))) (σ' := (zup σ 0 0 1)) (v := some (.int (zI 0))) (zPost_no (a := 0) ht (by decide)) hRH_3 (hzH_3.trans rfl) hSH_3) hSH_3.2.2 dX5_bill_34
  · refine z_iconst hx hb dX5_bill_9 ?_
    refine lv_goto (tgt := 14) hx hb dX5_bill_10 (by decide) ?_
    refine m_put hx hb hts in_X5_bill hown hK hR hM va_S.rf 0 (by decide) rfl lk_X5_bill_59 rfl rfl rfl rfl dX5_bill_14 (fun H_5 locsH_5 hRH_5 hzH_5 hSH_5 => ?_)
    refine lv_aload_n hx hb dX5_bill_17 rfl (lv_at hl 0 rfl) ?_
    refine m_get hx hb hts in_X5_bill hown hK hRH_5 0 (by decide) lk_X5_bill_59 rfl rfl dX5_bill_18 ?_
    refine z_top (b := 0) (by rw [zup_s]) ?_
    refine z_if_le (tgt := 28) hx hb dX5_bill_21 (by decide) (by omega) (fun c_6 => ?_) (fun c_6 => ?_)
    · refine lv_aload_n hx hb dX5_bill_28 rfl (lv_at hl 0 rfl) ?_
      refine m_get hx hb hts in_X5_bill hown hK hRH_5 10 (by decide) lk_X5_bill_32 rfl rfl dX5_bill_29 ?_
      refine lv_iload_n hx hb dX5_bill_32 rfl (lv_at hl 1 rfl) ?_
      refine m_ald hx hb hK hRH_5 10 rfl (by show 0 ≤ k ∧ k < ((12 : Nat) : Int); omega) dX5_bill_33 ?_
      refine z_top (b := σ 10 k) (by rw [zup_t (t := 0) (t' := 10) (by decide)]) ?_
      have ht : zth_bill σ k = 0 := by unfold zth_bill; (repeat' split) <;> omega
      exact W.iret hx hb hr (z_endM (post := zPost (zth_bill σ k) (σ 10 k) ((zup σ 0 0 0)) (zup σ 0 0 (zth_bill σ k))) (σ' := (zup σ 0 0 0)) (v := some (.int (zI (σ 10 k)))) (zPost_ok (a := (σ 10 k)) ht (by rfl) (by rfl)) hRH_5 (hzH_5.trans rfl) hSH_5) hSH_5.2.2 dX5_bill_34
    · exact absurd c_6 (by decide)

theorem lk_X5_count_59 : Cond.fieldLink RX5 59 "HarbourPilotlineModel" "thrown" "I" ∈ wsX5_count := by decide +kernel
theorem lk_X5_count_71 : Cond.fieldLink RX5 71 "HarbourPilotlineModel" "conferences" "I" ∈ wsX5_count := by decide +kernel
theorem lk_X5_count_53 : Cond.fieldLink RX5 53 "HarbourPilotlineModel" "state" "[I" ∈ wsX5_count := by decide +kernel
theorem lk_X5_count_29 : Cond.fieldLink RX5 29 "HarbourPilotlineModel" "needs" "[I" ∈ wsX5_count := by decide +kernel
theorem lk_X5_count_41 : Cond.fieldLink RX5 41 "HarbourPilotlineModel" "ship" "[I" ∈ wsX5_count := by decide +kernel
theorem lk_X5_count_127 : Cond.fieldLink RX5 127 "HarbourPilotlineModel" "moved" "I" ∈ wsX5_count := by decide +kernel
theorem in_X5_count : ∀ w ∈ wsX50, w ∈ wsX5_count := by decide +kernel
set_option maxRecDepth 100000 in
set_option maxHeartbeats 4000000 in
theorem c_X5_count (l : Launch) (D : va_G) (cI cO cL : ClassId) (b : Nat) (ma : Nat → Nat) (hM : MA b ma) (σ : zT) (H0 : Heap) (hR : RM D cI b ma σ H0) (w : Int) (hI : zInv σ) (hw : (-2147483648 ≤ w ∧ w < 2147483648)) : zWM l yX5_count wsX5_count ({ frames := 1, cells := 0, slots := 0, locals := 22 }) D cI cO cL b ma [.ref b, .int (zI w)] H0 (zPost (zth_count w) (zan_count (zup σ 0 0 0) w) ((zup σ 0 0 0)) (zup σ 0 0 (zth_count w))) := by
  refine Met.ofW (cc := cX5_count) (maxL := 4) (ret := (some .int)) (by decide) rfl ?_
  intro p e s m args below meth c s₁ B hml hv
  obtain ⟨rfl, hH, hK⟩ := hv
  subst hH
  have hx := B.exec
  have hb := B.bytes
  have hr := B.returns
  have hts := atoms_spec (ws := wsX5_count) B.pre
  have hown : s.vm.findClass RX5 = some m.cls := findClass_of_methodNamed B.named
  have hlocks := B.notSynchronized
  have hl := lv_entry ([.ref b, .int (zI w)]) (n := 4) (Nat.le_of_ble_eq_true rfl)
  rw [lg_entry_eq]
  generalize (lg_sl ([.ref b, .int (zI w)]) ++ List.replicate (4 - (lg_sl ([.ref b, .int (zI w)])).length) Slot.unset).toArray = ls at hl ⊢
  have hl : lv_has ls 4 [(0, .ref b), (1, .int (zI w))] := hl
  have f0 := hI.r
  refine lv_aload_n hx hb dX5_count_0 rfl (lv_at hl 0 rfl) ?_
  refine lv_iload_n hx hb dX5_count_1 rfl (lv_at hl 1 rfl) ?_
  refine z_iconst hx hb dX5_count_2 ?_
  refine z_bipush hx hb dX5_count_3 (by decide +kernel) ?_
  refine z_cs (As := [.int (zI w), .int (zI 0), .int (zI 7)]) (rest := [.ref b]) ⟨hx, hb, hml, hown, hts⟩ (c_X5_in l D cI cO cL b ma σ s.heap hR w 0 7 (by omega)) (va_cwS 3 hts gX5_count_X5_in rfl rfl rfl (by decide +kernel) ⟨Nat.le_of_ble_eq_true rfl, Nat.le_of_ble_eq_true rfl⟩) (zKK_mv D cI cO cL) (fun U _ hv => va_K.moved hv hK) rfl hl.1 rfl (Nat.le_of_ble_eq_true rfl) dX5_count_5 ⟨Nat.zero_le _, Nat.zero_le _⟩ (fun r_1 hr_1 => ?_)
  rw [hr_1]
  refine z_ifb_eq (tgt := 15) hx hb dX5_count_8 (by decide) (fun c_2 => ?_) (fun c_2 => ?_)
  · refine z_iconst hx hb dX5_count_15 ?_
    refine m_put hx hb hts in_X5_count hown hK hR hM va_S.rf 0 (by decide) rfl lk_X5_count_59 rfl rfl rfl rfl dX5_count_16 (fun H_3 locsH_3 hRH_3 hzH_3 hSH_3 => ?_)
    refine lv_aload_n hx hb dX5_count_19 rfl (lv_at hl 0 rfl) ?_
    refine m_get hx hb hts in_X5_count hown hK hRH_3 0 (by decide) lk_X5_count_59 rfl rfl dX5_count_20 ?_
    refine z_top (b := 1) (by rw [zup_s]) ?_
    refine z_if_le (tgt := 28) hx hb dX5_count_23 (by decide) (by omega) (fun c_4 => ?_) (fun c_4 => ?_)
    · exact absurd c_4 (by decide)
    · refine z_iconst hx hb dX5_count_26 ?_
      have ht : zth_count w = 1 := by unfold zth_count; (repeat' split) <;> omega
      exact W.iret hx hb hr (z_endM (post := zPost (zth_count w) (zan_count (zup σ 0 0 0) w) ((zup σ 0 0 0)) (zup σ 0 0 (zth_count w))) (σ' := (zup σ 0 0 1)) (v := some (.int (zI 0))) (zPost_no (a := 0) ht (by decide)) hRH_3 (hzH_3.trans rfl) hSH_3) hSH_3.2.2 dX5_count_27
  · refine z_iconst hx hb dX5_count_11 ?_
    refine lv_goto (tgt := 16) hx hb dX5_count_12 (by decide) ?_
    refine m_put hx hb hts in_X5_count hown hK hR hM va_S.rf 0 (by decide) rfl lk_X5_count_59 rfl rfl rfl rfl dX5_count_16 (fun H_5 locsH_5 hRH_5 hzH_5 hSH_5 => ?_)
    refine lv_aload_n hx hb dX5_count_19 rfl (lv_at hl 0 rfl) ?_
    refine m_get hx hb hts in_X5_count hown hK hRH_5 0 (by decide) lk_X5_count_59 rfl rfl dX5_count_20 ?_
    refine z_top (b := 0) (by rw [zup_s]) ?_
    refine z_if_le (tgt := 28) hx hb dX5_count_23 (by decide) (by omega) (fun c_6 => ?_) (fun c_6 => ?_)
    · refine lv_iload_n hx hb dX5_count_28 rfl (lv_at hl 1 rfl) ?_
      refine z_iconst hx hb dX5_count_29 ?_
      refine z_icmp_le (tgt := 51) hx hb dX5_count_30 (by decide) (by omega) (fun c_7 => ?_) (fun c_7 => ?_)
      · refine z_iconst hx hb dX5_count_51 ?_
        refine lv_istore_n (lv' := [(2, .int (zI 0)), (0, .ref b), (1, .int (zI w))]) hx hb dX5_count_52 rfl hl (by decide) rfl (fun ls hl => ?_)
        refine z_iconst hx hb dX5_count_53 ?_
        refine lv_istore_n (lv' := [(3, .int (zI 0)), (2, .int (zI 0)), (0, .ref b), (1, .int (zI w))]) hx hb dX5_count_54 rfl hl (by decide) rfl (fun ls hl => ?_)
        refine z_cap (fun WW wi wo => ?_)
        have hL : ∀ (n : Nat) (v i : Int) (ls : Array Slot) (HL : Heap) (locsL : List Loc), v = zSum (fun c => if w = 5 then (if σ 19 c = 3 then σ 9 (σ 15 c) else 0) else (if σ 19 c = w then 1 else 0)) i.toNat → 0 ≤ i ∧ i ≤ σ 14 0 → RM D cI b ma (zup σ 0 0 0) HL → HL.size = s.heap.size → va_S (AM b ma) s.heap HL locsL → (σ 14 0 - i).toNat < n → lv_has ls 4 [(0, .ref b), (1, .int (zI w)), (2, .int (zI v)), (3, .int (zI i))] → WW HL locsL 0 0 (F0 m 55 ls []) := by
          intro n
          induction n with
          | zero => intro v i ls HL locsL hv hi hRL hzL hSL hm; exact absurd hm (Nat.not_lt_zero _)
          | succ n ih =>
            intro v i ls HL locsL hv hi hRL hzL hSL hm hl
            refine wi _ _ _ _ _ ?_
            refine lv_iload_n hx hb dX5_count_55 rfl (lv_at hl 3 rfl) ?_
            refine lv_aload_n hx hb dX5_count_56 rfl (lv_at hl 0 rfl) ?_
            refine m_get hx hb hts in_X5_count hown hK hRL 14 (by decide) lk_X5_count_71 rfl rfl dX5_count_57 ?_
            refine z_top (b := σ 14 0) (by rw [zup_t (t := 0) (t' := 14) (by decide)]) ?_
            refine z_icmp_ge (tgt := 120) hx hb dX5_count_60 (by decide) (by omega) (fun c_8 => ?_) (fun c_8 => ?_)
            · refine lv_iload_n hx hb dX5_count_120 rfl (lv_at hl 2 rfl) ?_
              have ht : zth_count w = 0 := by unfold zth_count; (repeat' split) <;> omega
              exact W.iret hx hb hr (z_endM (post := zPost (zth_count w) (zan_count (zup σ 0 0 0) w) ((zup σ 0 0 0)) (zup σ 0 0 (zth_count w))) (σ' := (zup σ 0 0 0)) (v := some (.int (zI v))) (zPost_ok (a := v) ht (by show v = zan_count σ w; rw [hv, show i = σ 14 0 by omega]; unfold zan_count; rw [if_neg (by omega), if_neg (by omega)]; by_cases h5 : w = 5 <;> simp only [h5, if_true, if_false, reduceIte]) rfl) hRL hzL hSL) hSL.2.2 dX5_count_121
            · have fi := hI.c (i := i) (by omega)
              have gi := hI.s (i := σ 15 i) (by omega)
              refine lv_iload_n hx hb dX5_count_63 rfl (lv_at hl 2 rfl) ?_
              refine lv_iload_n hx hb dX5_count_64 rfl (lv_at hl 1 rfl) ?_
              refine z_iconst hx hb dX5_count_65 ?_
              refine z_icmp_ne (tgt := 97) hx hb dX5_count_66 (by decide) (by omega) (fun c_9 => ?_) (fun c_9 => ?_)
              · refine lv_aload_n hx hb dX5_count_97 rfl (lv_at hl 0 rfl) ?_
                refine m_get hx hb hts in_X5_count hown hK hRL 19 (by decide) lk_X5_count_53 rfl rfl dX5_count_98 ?_
                refine lv_iload_n hx hb dX5_count_101 rfl (lv_at hl 3 rfl) ?_
                refine m_ald hx hb hK hRL 19 rfl (by show 0 ≤ i ∧ i < ((40 : Nat) : Int); omega) dX5_count_102 ?_
                refine z_top (b := σ 19 i) (by rw [zup_t (t := 0) (t' := 19) (by decide)]) ?_
                refine lv_iload_n hx hb dX5_count_103 rfl (lv_at hl 1 rfl) ?_
                refine z_icmp_ne (tgt := 111) hx hb dX5_count_104 (by decide) (by omega) (fun c_10 => ?_) (fun c_10 => ?_)
                · refine z_iconst hx hb dX5_count_111 ?_
                  refine z_iadd hx hb dX5_count_112 ?_
                  refine lv_istore_n (lv' := [(2, .int (zI (v + 0))), (0, .ref b), (1, .int (zI w)), (3, .int (zI i))]) hx hb dX5_count_113 rfl hl (by decide) rfl (fun ls hl => ?_)
                  refine z_iinc (lv' := [(3, .int (zI (i + 1))), (2, .int (zI (v + 0))), (0, .ref b), (1, .int (zI w))]) hx hb dX5_count_114 hl (k := 3) rfl (by decide) rfl (fun ls hl => ?_)
                  refine lv_goto (tgt := 55) hx hb dX5_count_117 (by decide) ?_
                  exact wo _ _ _ _ _ (ih (v + 0) (i + 1) ls _ _ (by rw [zSum_i _ hi.1, ← hv]; first | rw [if_pos (by omega), if_pos (by omega)] | rw [if_pos (by omega), if_neg (by omega)] | rw [if_neg (by omega), if_pos (by omega)] | rw [if_neg (by omega), if_neg (by omega)]) (by omega) (by exact hRL) hzL hSL (by omega) (lv_sub hl [2, 3, 1, 0] rfl))
                · refine z_iconst hx hb dX5_count_107 ?_
                  refine lv_goto (tgt := 112) hx hb dX5_count_108 (by decide) ?_
                  refine z_iadd hx hb dX5_count_112 ?_
                  refine lv_istore_n (lv' := [(2, .int (zI (v + 1))), (0, .ref b), (1, .int (zI w)), (3, .int (zI i))]) hx hb dX5_count_113 rfl hl (by decide) rfl (fun ls hl => ?_)
                  refine z_iinc (lv' := [(3, .int (zI (i + 1))), (2, .int (zI (v + 1))), (0, .ref b), (1, .int (zI w))]) hx hb dX5_count_114 hl (k := 3) rfl (by decide) rfl (fun ls hl => ?_)
                  refine lv_goto (tgt := 55) hx hb dX5_count_117 (by decide) ?_
                  exact wo _ _ _ _ _ (ih (v + 1) (i + 1) ls _ _ (by rw [zSum_i _ hi.1, ← hv]; first | rw [if_pos (by omega), if_pos (by omega)] | rw [if_pos (by omega), if_neg (by omega)] | rw [if_neg (by omega), if_pos (by omega)] | rw [if_neg (by omega), if_neg (by omega)]) (by omega) (by exact hRL) hzL hSL (by omega) (lv_sub hl [2, 3, 1, 0] rfl))
              · refine lv_aload_n hx hb dX5_count_69 rfl (lv_at hl 0 rfl) ?_
                refine m_get hx hb hts in_X5_count hown hK hRL 19 (by decide) lk_X5_count_53 rfl rfl dX5_count_70 ?_
                refine lv_iload_n hx hb dX5_count_73 rfl (lv_at hl 3 rfl) ?_
                refine m_ald hx hb hK hRL 19 rfl (by show 0 ≤ i ∧ i < ((40 : Nat) : Int); omega) dX5_count_74 ?_
                refine z_top (b := σ 19 i) (by rw [zup_t (t := 0) (t' := 19) (by decide)]) ?_
                refine z_iconst hx hb dX5_count_75 ?_
                refine z_icmp_ne (tgt := 93) hx hb dX5_count_76 (by decide) (by omega) (fun c_11 => ?_) (fun c_11 => ?_)
                · refine z_iconst hx hb dX5_count_93 ?_
                  refine lv_goto (tgt := 112) hx hb dX5_count_94 (by decide) ?_
                  refine z_iadd hx hb dX5_count_112 ?_
                  refine lv_istore_n (lv' := [(2, .int (zI (v + 0))), (0, .ref b), (1, .int (zI w)), (3, .int (zI i))]) hx hb dX5_count_113 rfl hl (by decide) rfl (fun ls hl => ?_)
                  refine z_iinc (lv' := [(3, .int (zI (i + 1))), (2, .int (zI (v + 0))), (0, .ref b), (1, .int (zI w))]) hx hb dX5_count_114 hl (k := 3) rfl (by decide) rfl (fun ls hl => ?_)
                  refine lv_goto (tgt := 55) hx hb dX5_count_117 (by decide) ?_
                  exact wo _ _ _ _ _ (ih (v + 0) (i + 1) ls _ _ (by rw [zSum_i _ hi.1, ← hv]; first | rw [if_pos (by omega), if_pos (by omega)] | rw [if_pos (by omega), if_neg (by omega)] | rw [if_neg (by omega), if_pos (by omega)] | rw [if_neg (by omega), if_neg (by omega)]) (by omega) (by exact hRL) hzL hSL (by omega) (lv_sub hl [2, 3, 1, 0] rfl))
                · refine lv_aload_n hx hb dX5_count_79 rfl (lv_at hl 0 rfl) ?_
                  refine m_get hx hb hts in_X5_count hown hK hRL 9 (by decide) lk_X5_count_29 rfl rfl dX5_count_80 ?_
                  refine lv_aload_n hx hb dX5_count_83 rfl (lv_at hl 0 rfl) ?_
                  refine m_get hx hb hts in_X5_count hown hK hRL 15 (by decide) lk_X5_count_41 rfl rfl dX5_count_84 ?_
                  refine lv_iload_n hx hb dX5_count_87 rfl (lv_at hl 3 rfl) ?_
                  refine m_ald hx hb hK hRL 15 rfl (by show 0 ≤ i ∧ i < ((40 : Nat) : Int); omega) dX5_count_88 ?_
                  refine z_top (b := σ 15 i) (by rw [zup_t (t := 0) (t' := 15) (by decide)]) ?_
                  refine m_ald hx hb hK hRL 9 rfl (by show 0 ≤ (σ 15 i) ∧ (σ 15 i) < ((12 : Nat) : Int); omega) dX5_count_89 ?_
                  refine z_top (b := σ 9 (σ 15 i)) (by rw [zup_t (t := 0) (t' := 9) (by decide)]) ?_
                  refine lv_goto (tgt := 112) hx hb dX5_count_90 (by decide) ?_
                  refine z_iadd hx hb dX5_count_112 ?_
                  refine lv_istore_n (lv' := [(2, .int (zI (v + (σ 9 (σ 15 i))))), (0, .ref b), (1, .int (zI w)), (3, .int (zI i))]) hx hb dX5_count_113 rfl hl (by decide) rfl (fun ls hl => ?_)
                  refine z_iinc (lv' := [(3, .int (zI (i + 1))), (2, .int (zI (v + (σ 9 (σ 15 i))))), (0, .ref b), (1, .int (zI w))]) hx hb dX5_count_114 hl (k := 3) rfl (by decide) rfl (fun ls hl => ?_)
                  refine lv_goto (tgt := 55) hx hb dX5_count_117 (by decide) ?_
                  exact wo _ _ _ _ _ (ih (v + (σ 9 (σ 15 i))) (i + 1) ls _ _ (by rw [zSum_i _ hi.1, ← hv]; first | rw [if_pos (by omega), if_pos (by omega)] | rw [if_pos (by omega), if_neg (by omega)] | rw [if_neg (by omega), if_pos (by omega)] | rw [if_neg (by omega), if_neg (by omega)]) (by omega) (by exact hRL) hzL hSL (by omega) (lv_sub hl [2, 3, 1, 0] rfl))
        exact wo _ _ _ _ _ (hL _ 0 0 ls _ _ (by rfl) (by omega) (by exact hRH_5) (hzH_5.trans rfl) hSH_5 (Nat.lt_succ_self _) (lv_sub hl [2, 3, 1, 0] rfl))
      · refine lv_iload_n hx hb dX5_count_33 rfl (lv_at hl 1 rfl) ?_
        refine z_bipush hx hb dX5_count_34 (by decide +kernel) ?_
        refine z_icmp_ne (tgt := 46) hx hb dX5_count_36 (by decide) (by omega) (fun c_12 => ?_) (fun c_12 => ?_)
        · refine lv_aload_n hx hb dX5_count_46 rfl (lv_at hl 0 rfl) ?_
          refine m_get hx hb hts in_X5_count hown hK hRH_5 21 (by decide) lk_X5_count_127 rfl rfl dX5_count_47 ?_
          refine z_top (b := σ 21 0) (by rw [zup_t (t := 0) (t' := 21) (by decide)]) ?_
          have ht : zth_count w = 0 := by unfold zth_count; (repeat' split) <;> omega
          exact W.iret hx hb hr (z_endM (post := zPost (zth_count w) (zan_count (zup σ 0 0 0) w) ((zup σ 0 0 0)) (zup σ 0 0 (zth_count w))) (σ' := (zup σ 0 0 0)) (v := some (.int (zI (σ 21 0)))) (zPost_ok (a := (σ 21 0)) ht (by show _ = zan_count σ w; unfold zan_count; rw [if_neg (by omega), if_pos (by omega)]) (by rfl)) hRH_5 (hzH_5.trans rfl) hSH_5) hSH_5.2.2 dX5_count_50
        · refine lv_aload_n hx hb dX5_count_39 rfl (lv_at hl 0 rfl) ?_
          refine z_cv (As := []) (rest := []) ⟨hx, hb, hml, hown, hts⟩ (c_X5_bills l D cI cO cL b ma (zup σ 0 0 0) H_5 hRH_5  (zInv_th hI 0)) (cwV 0 hts gX5_count_X5_bills rfl rfl rfl (by decide +kernel) ⟨Nat.le_of_ble_eq_true rfl, Nat.le_of_ble_eq_true rfl⟩) (zKK_mv D cI cO cL) (fun U _ hv => va_K.moved hv hK) (m_recv hK hRH_5) rfl hl.1 rfl (Nat.le_of_ble_eq_true rfl) dX5_count_40 ⟨Nat.zero_le _, Nat.zero_le _⟩ (fun r_13 hr_13 => ?_)
          rw [hr_13]
          refine z_top (a := zSum ((zup σ 0 0 0) 10) ((zup σ 0 0 0) 5 0).toNat) (b := zSum (σ 10) (σ 5 0).toNat) rfl ?_
          refine lv_goto (tgt := 50) hx hb dX5_count_43 (by decide) ?_
          have ht : zth_count w = 0 := by unfold zth_count; (repeat' split) <;> omega
          exact W.iret hx hb hr (z_endM (post := zPost (zth_count w) (zan_count (zup σ 0 0 0) w) ((zup σ 0 0 0)) (zup σ 0 0 (zth_count w))) (σ' := (zup σ 0 0 0)) (v := some (.int (zI (zSum (σ 10) (σ 5 0).toNat)))) (zPost_ok (a := (zSum (σ 10) (σ 5 0).toNat)) ht (by show _ = zan_count σ w; unfold zan_count; rw [if_pos (by omega)]) (by rfl)) hRH_5 (hzH_5.trans rfl) hSH_5) hSH_5.2.2 dX5_count_50
    · exact absurd c_6 (by decide)
