/-! the reference: drop, minutes, what is asked of a pilot -/
theorem in_X5_restedAnew : ∀ w ∈ wsX50, w ∈ wsX5_restedAnew := by decide +kernel
set_option maxRecDepth 100000 in
set_option maxHeartbeats 4000000 in
theorem c_X5_restedAnew (l : Launch) (D : va_G) (cI cO cL : ClassId) (b : Nat) (ma : Nat → Nat) (hM : MA b ma) (σ : zT) (H0 : Heap) (hR : RM D cI b ma σ H0) (k : Int) (hI : zInv σ) (hk : (-2147483648 ≤ k ∧ k < 2147483648)) : zWM l yX5_restedAnew wsX5_restedAnew ({ frames := 3, cells := 0, slots := 0, locals := 67 }) D cI cO cL b ma [.ref b, .int (zI k)] H0 (zPost (zth_pil σ k) (zan_rested (zup σ 0 0 0) k) ((zup σ 0 0 0)) (zup σ 0 0 (zth_pil σ k))) := by
  refine Met.ofW (cc := cX5_restedAnew) (maxL := 2) (ret := (some .int)) (by decide) rfl ?_
  intro p e s m args below meth c s₁ B hml hv
  obtain ⟨rfl, hH, hK⟩ := hv
  subst hH
  have hx := B.exec
  have hb := B.bytes
  have hr := B.returns
  have hts := atoms_spec (ws := wsX5_restedAnew) B.pre
  have hown : s.vm.findClass RX5 = some m.cls := findClass_of_methodNamed B.named
  have hlocks := B.notSynchronized
  have hl := lv_entry ([.ref b, .int (zI k)]) (n := 2) (Nat.le_of_ble_eq_true rfl)
  rw [lg_entry_eq]
  generalize (lg_sl ([.ref b, .int (zI k)]) ++ List.replicate (2 - (lg_sl ([.ref b, .int (zI k)])).length) Slot.unset).toArray = ls at hl ⊢
  have hl : lv_has ls 2 [(0, .ref b), (1, .int (zI k))] := hl
  have f0 := hI.r
  refine lv_aload_n hx hb dX5_restedAnew_0 rfl (lv_at hl 0 rfl) ?_
  refine lv_iload_n hx hb dX5_restedAnew_1 rfl (lv_at hl 1 rfl) ?_
  refine z_wm (As := [.int (zI k)]) (rest := []) ⟨hx, hb, hml, hown, hts⟩ (c_X5_rested l D cI cO cL b ma hM σ s.heap hR k hI (by omega)) (cwV 1 hts gX5_restedAnew_X5_rested rfl rfl rfl (by decide +kernel) ⟨Nat.le_of_ble_eq_true rfl, Nat.le_of_ble_eq_true rfl⟩) hK va_S.rf (m_recv hK hR) rfl hl.1 rfl (Nat.le_of_ble_eq_true rfl) dX5_restedAnew_2 ⟨Nat.zero_le _, Nat.zero_le _⟩ (fun rH_1 σH_1 H_1 locsH_1 hpH_1 hRH_1 hzH_1 hSH_1 => ?_)
  obtain ⟨zH_1, hz9H_1⟩ : ∃ z : Int, rH_1 = some (.int (zI z)) := by by_cases q : zth_pil σ k = 0 <;> first | exact ⟨_, (hpH_1.1 q).1⟩ | exact (hpH_1.2 q).1
  subst hz9H_1
  exact W.iret hx hb hr (z_endM (post := zPost (zth_pil σ k) (zan_rested (zup σ 0 0 0) k) ((zup σ 0 0 0)) (zup σ 0 0 (zth_pil σ k))) (σ' := σH_1) (v := some (.int (zI zH_1))) hpH_1 hRH_1 (hzH_1.trans rfl) hSH_1) hSH_1.2.2 dX5_restedAnew_5

theorem lk_X5_ofPilot_59 : Cond.fieldLink RX5 59 "HarbourPilotlineModel" "thrown" "I" ∈ wsX5_ofPilot := by decide +kernel
theorem lk_X5_ofPilot_71 : Cond.fieldLink RX5 71 "HarbourPilotlineModel" "conferences" "I" ∈ wsX5_ofPilot := by decide +kernel
theorem lk_X5_ofPilot_50 : Cond.fieldLink RX5 50 "HarbourPilotlineModel" "pilot" "[I" ∈ wsX5_ofPilot := by decide +kernel
theorem lk_X5_ofPilot_53 : Cond.fieldLink RX5 53 "HarbourPilotlineModel" "state" "[I" ∈ wsX5_ofPilot := by decide +kernel
theorem lk_X5_ofPilot_26 : Cond.fieldLink RX5 26 "HarbourPilotlineModel" "takes" "[I" ∈ wsX5_ofPilot := by decide +kernel
theorem lk_X5_ofPilot_41 : Cond.fieldLink RX5 41 "HarbourPilotlineModel" "ship" "[I" ∈ wsX5_ofPilot := by decide +kernel
theorem lk_X5_ofPilot_38 : Cond.fieldLink RX5 38 "HarbourPilotlineModel" "rate" "[I" ∈ wsX5_ofPilot := by decide +kernel
theorem in_X5_ofPilot : ∀ w ∈ wsX50, w ∈ wsX5_ofPilot := by decide +kernel
set_option maxRecDepth 100000 in
set_option maxHeartbeats 4000000 in
theorem c_X5_ofPilot (l : Launch) (D : va_G) (cI cO cL : ClassId) (b : Nat) (ma : Nat → Nat) (hM : MA b ma) (σ : zT) (H0 : Heap) (hR : RM D cI b ma σ H0) (k w : Int) (hI : zInv σ) (hk : (-2147483648 ≤ k ∧ k < 2147483648)) (hw : (-2147483648 ≤ w ∧ w < 2147483648)) : zWM l yX5_ofPilot wsX5_ofPilot ({ frames := 2, cells := 0, slots := 0, locals := 43 }) D cI cO cL b ma [.ref b, .int (zI k), .int (zI w)] H0 (zPost (zth_ofP σ k w) (zan_ofP (zup σ 0 0 0) k w) ((zup σ 0 0 0)) (zup σ 0 0 (zth_ofP σ k w))) := by
  refine Met.ofW (cc := cX5_ofPilot) (maxL := 6) (ret := (some .int)) (by decide) rfl ?_
  intro p e s m args below meth c s₁ B hml hv
  obtain ⟨rfl, hH, hK⟩ := hv
  subst hH
  have hx := B.exec
  have hb := B.bytes
  have hr := B.returns
  have hts := atoms_spec (ws := wsX5_ofPilot) B.pre
  have hown : s.vm.findClass RX5 = some m.cls := findClass_of_methodNamed B.named
  have hlocks := B.notSynchronized
  have hl := lv_entry ([.ref b, .int (zI k), .int (zI w)]) (n := 6) (Nat.le_of_ble_eq_true rfl)
  rw [lg_entry_eq]
  generalize (lg_sl ([.ref b, .int (zI k), .int (zI w)]) ++ List.replicate (6 - (lg_sl ([.ref b, .int (zI k), .int (zI w)])).length) Slot.unset).toArray = ls at hl ⊢
  have hl : lv_has ls 6 [(0, .ref b), (1, .int (zI k)), (2, .int (zI w))] := hl
  have f0 := hI.r
  refine lv_aload_n hx hb dX5_ofPilot_0 rfl (lv_at hl 0 rfl) ?_
  refine lv_aload_n hx hb dX5_ofPilot_1 rfl (lv_at hl 0 rfl) ?_
  refine lv_iload_n hx hb dX5_ofPilot_2 rfl (lv_at hl 1 rfl) ?_
  refine z_cv (As := [.int (zI k)]) (rest := [.ref b]) ⟨hx, hb, hml, hown, hts⟩ (c_X5_isPilot l D cI cO cL b ma σ s.heap hR k (by omega) (by omega)) (cwV 1 hts gX5_ofPilot_X5_isPilot rfl rfl rfl (by decide +kernel) ⟨Nat.le_of_ble_eq_true rfl, Nat.le_of_ble_eq_true rfl⟩) (zKK_mv D cI cO cL) (fun U _ hv => va_K.moved hv hK) (m_recv hK hR) rfl hl.1 rfl (Nat.le_of_ble_eq_true rfl) dX5_ofPilot_3 ⟨Nat.zero_le _, Nat.zero_le _⟩ (fun r_1 hr_1 => ?_)
  rw [hr_1]
  refine z_ifb_eq (tgt := 22) hx hb dX5_ofPilot_6 (by decide) (fun c_2 => ?_) (fun c_2 => ?_)
  · refine z_iconst hx hb dX5_ofPilot_22 ?_
    refine m_put hx hb hts in_X5_ofPilot hown hK hR hM va_S.rf 0 (by decide) rfl lk_X5_ofPilot_59 rfl rfl rfl rfl dX5_ofPilot_23 (fun H_3 locsH_3 hRH_3 hzH_3 hSH_3 => ?_)
    refine z_iconst hx hb dX5_ofPilot_26 ?_
    refine lv_istore_n (lv' := [(3, .int (zI 0)), (0, .ref b), (1, .int (zI k)), (2, .int (zI w))]) hx hb dX5_ofPilot_27 rfl hl (by decide) rfl (fun ls hl => ?_)
    refine z_iconst hx hb dX5_ofPilot_28 ?_
    refine lv_istore (lv' := [(4, .int (zI 0)), (3, .int (zI 0)), (0, .ref b), (1, .int (zI k)), (2, .int (zI w))]) hx hb dX5_ofPilot_29 hl (by decide) rfl (fun ls hl => ?_)
    refine lv_iload hx hb dX5_ofPilot_31 (lv_at hl 0 rfl) ?_
    refine lv_aload_n hx hb dX5_ofPilot_33 rfl (lv_at hl 2 rfl) ?_
    refine m_get hx hb hts in_X5_ofPilot hown hK hRH_3 14 (by decide) lk_X5_ofPilot_71 rfl rfl dX5_ofPilot_34 ?_
    refine z_top (b := σ 14 0) (by rw [zup_t (t := 0) (t' := 14) (by decide)]) ?_
    refine z_icmp_ge (tgt := 151) hx hb dX5_ofPilot_37 (by decide) (by omega) (fun c_4 => ?_) (fun c_4 => ?_)
    · refine lv_iload_n hx hb dX5_ofPilot_151 rfl (lv_at hl 4 rfl) ?_
      refine z_iconst hx hb dX5_ofPilot_152 ?_
      refine z_icmp_ne (tgt := 164) hx hb dX5_ofPilot_153 (by decide) (by omega) (fun c_5 => ?_) (fun c_5 => ?_)
      · refine lv_iload_n hx hb dX5_ofPilot_164 rfl (lv_at hl 1 rfl) ?_
        have ht : zth_ofP σ k w = 1 := by unfold zth_ofP; (repeat' split) <;> omega
        exact W.iret hx hb hr (z_endM (post := zPost (zth_ofP σ k w) (zan_ofP (zup σ 0 0 0) k w) ((zup σ 0 0 0)) (zup σ 0 0 (zth_ofP σ k w))) (σ' := (zup σ 0 0 1)) (v := some (.int (zI 0))) (zPost_no (a := 0) ht (by decide)) hRH_3 (hzH_3.trans rfl) hSH_3) hSH_3.2.2 dX5_ofPilot_165
      · refine lv_iload_n hx hb dX5_ofPilot_156 rfl (lv_at hl 1 rfl) ?_
        refine z_if_le (tgt := 164) hx hb dX5_ofPilot_157 (by decide) (by omega) (fun c_6 => ?_) (fun c_6 => ?_)
        · refine lv_iload_n hx hb dX5_ofPilot_164 rfl (lv_at hl 1 rfl) ?_
          have ht : zth_ofP σ k w = 1 := by unfold zth_ofP; (repeat' split) <;> omega
          exact W.iret hx hb hr (z_endM (post := zPost (zth_ofP σ k w) (zan_ofP (zup σ 0 0 0) k w) ((zup σ 0 0 0)) (zup σ 0 0 (zth_ofP σ k w))) (σ' := (zup σ 0 0 1)) (v := some (.int (zI 0))) (zPost_no (a := 0) ht (by decide)) hRH_3 (hzH_3.trans rfl) hSH_3) hSH_3.2.2 dX5_ofPilot_165
        · exact absurd c_6 (by decide)
    · refine lv_aload_n hx hb dX5_ofPilot_40 rfl (lv_at hl 2 rfl) ?_
      refine m_get hx hb hts in_X5_ofPilot hown hK hRH_3 0 (by decide) lk_X5_ofPilot_59 rfl rfl dX5_ofPilot_41 ?_
      refine z_top (b := 1) (by rw [zup_s]) ?_
      refine z_if_ne (tgt := 151) hx hb dX5_ofPilot_44 (by decide) (by omega) (fun c_7 => ?_) (fun c_7 => ?_)
      · refine lv_iload_n hx hb dX5_ofPilot_151 rfl (lv_at hl 4 rfl) ?_
        refine z_iconst hx hb dX5_ofPilot_152 ?_
        refine z_icmp_ne (tgt := 164) hx hb dX5_ofPilot_153 (by decide) (by omega) (fun c_8 => ?_) (fun c_8 => ?_)
        · refine lv_iload_n hx hb dX5_ofPilot_164 rfl (lv_at hl 1 rfl) ?_
          have ht : zth_ofP σ k w = 1 := by unfold zth_ofP; (repeat' split) <;> omega
          exact W.iret hx hb hr (z_endM (post := zPost (zth_ofP σ k w) (zan_ofP (zup σ 0 0 0) k w) ((zup σ 0 0 0)) (zup σ 0 0 (zth_ofP σ k w))) (σ' := (zup σ 0 0 1)) (v := some (.int (zI 0))) (zPost_no (a := 0) ht (by decide)) hRH_3 (hzH_3.trans rfl) hSH_3) hSH_3.2.2 dX5_ofPilot_165
        · refine lv_iload_n hx hb dX5_ofPilot_156 rfl (lv_at hl 1 rfl) ?_
          refine z_if_le (tgt := 164) hx hb dX5_ofPilot_157 (by decide) (by omega) (fun c_9 => ?_) (fun c_9 => ?_)
          · refine lv_iload_n hx hb dX5_ofPilot_164 rfl (lv_at hl 1 rfl) ?_
            have ht : zth_ofP σ k w = 1 := by unfold zth_ofP; (repeat' split) <;> omega
            exact W.iret hx hb hr (z_endM (post := zPost (zth_ofP σ k w) (zan_ofP (zup σ 0 0 0) k w) ((zup σ 0 0 0)) (zup σ 0 0 (zth_ofP σ k w))) (σ' := (zup σ 0 0 1)) (v := some (.int (zI 0))) (zPost_no (a := 0) ht (by decide)) hRH_3 (hzH_3.trans rfl) hSH_3) hSH_3.2.2 dX5_ofPilot_165
          · exact absurd c_9 (by decide)
      · exact absurd c_7 (by decide)
  · refine lv_iload_n hx hb dX5_ofPilot_9 rfl (lv_at hl 2 rfl) ?_
    refine z_iconst hx hb dX5_ofPilot_10 ?_
    refine z_iconst hx hb dX5_ofPilot_11 ?_
    refine z_cs (As := [.int (zI w), .int (zI 0), .int (zI 3)]) (rest := [.ref b]) ⟨hx, hb, hml, hown, hts⟩ (c_X5_in l D cI cO cL b ma σ s.heap hR w 0 3 (by omega)) (va_cwS 3 hts gX5_ofPilot_X5_in rfl rfl rfl (by decide +kernel) ⟨Nat.le_of_ble_eq_true rfl, Nat.le_of_ble_eq_true rfl⟩) (zKK_mv D cI cO cL) (fun U _ hv => va_K.moved hv hK) rfl hl.1 rfl (Nat.le_of_ble_eq_true rfl) dX5_ofPilot_12 ⟨Nat.zero_le _, Nat.zero_le _⟩ (fun r_10 hr_10 => ?_)
    rw [hr_10]
    refine z_ifb_eq (tgt := 22) hx hb dX5_ofPilot_15 (by decide) (fun c_11 => ?_) (fun c_11 => ?_)
    · refine z_iconst hx hb dX5_ofPilot_22 ?_
      refine m_put hx hb hts in_X5_ofPilot hown hK hR hM va_S.rf 0 (by decide) rfl lk_X5_ofPilot_59 rfl rfl rfl rfl dX5_ofPilot_23 (fun H_12 locsH_12 hRH_12 hzH_12 hSH_12 => ?_)
      refine z_iconst hx hb dX5_ofPilot_26 ?_
      refine lv_istore_n (lv' := [(3, .int (zI 0)), (0, .ref b), (1, .int (zI k)), (2, .int (zI w))]) hx hb dX5_ofPilot_27 rfl hl (by decide) rfl (fun ls hl => ?_)
      refine z_iconst hx hb dX5_ofPilot_28 ?_
      refine lv_istore (lv' := [(4, .int (zI 0)), (3, .int (zI 0)), (0, .ref b), (1, .int (zI k)), (2, .int (zI w))]) hx hb dX5_ofPilot_29 hl (by decide) rfl (fun ls hl => ?_)
      refine lv_iload hx hb dX5_ofPilot_31 (lv_at hl 0 rfl) ?_
      refine lv_aload_n hx hb dX5_ofPilot_33 rfl (lv_at hl 2 rfl) ?_
      refine m_get hx hb hts in_X5_ofPilot hown hK hRH_12 14 (by decide) lk_X5_ofPilot_71 rfl rfl dX5_ofPilot_34 ?_
      refine z_top (b := σ 14 0) (by rw [zup_t (t := 0) (t' := 14) (by decide)]) ?_
      refine z_icmp_ge (tgt := 151) hx hb dX5_ofPilot_37 (by decide) (by omega) (fun c_13 => ?_) (fun c_13 => ?_)
      · refine lv_iload_n hx hb dX5_ofPilot_151 rfl (lv_at hl 4 rfl) ?_
        refine z_iconst hx hb dX5_ofPilot_152 ?_
        refine z_icmp_ne (tgt := 164) hx hb dX5_ofPilot_153 (by decide) (by omega) (fun c_14 => ?_) (fun c_14 => ?_)
        · refine lv_iload_n hx hb dX5_ofPilot_164 rfl (lv_at hl 1 rfl) ?_
          have ht : zth_ofP σ k w = 1 := by unfold zth_ofP; (repeat' split) <;> omega
          exact W.iret hx hb hr (z_endM (post := zPost (zth_ofP σ k w) (zan_ofP (zup σ 0 0 0) k w) ((zup σ 0 0 0)) (zup σ 0 0 (zth_ofP σ k w))) (σ' := (zup σ 0 0 1)) (v := some (.int (zI 0))) (zPost_no (a := 0) ht (by decide)) hRH_12 (hzH_12.trans rfl) hSH_12) hSH_12.2.2 dX5_ofPilot_165
        · refine lv_iload_n hx hb dX5_ofPilot_156 rfl (lv_at hl 1 rfl) ?_
          refine z_if_le (tgt := 164) hx hb dX5_ofPilot_157 (by decide) (by omega) (fun c_15 => ?_) (fun c_15 => ?_)
          · refine lv_iload_n hx hb dX5_ofPilot_164 rfl (lv_at hl 1 rfl) ?_
            have ht : zth_ofP σ k w = 1 := by unfold zth_ofP; (repeat' split) <;> omega
            exact W.iret hx hb hr (z_endM (post := zPost (zth_ofP σ k w) (zan_ofP (zup σ 0 0 0) k w) ((zup σ 0 0 0)) (zup σ 0 0 (zth_ofP σ k w))) (σ' := (zup σ 0 0 1)) (v := some (.int (zI 0))) (zPost_no (a := 0) ht (by decide)) hRH_12 (hzH_12.trans rfl) hSH_12) hSH_12.2.2 dX5_ofPilot_165
          · exact absurd c_15 (by decide)
      · refine lv_aload_n hx hb dX5_ofPilot_40 rfl (lv_at hl 2 rfl) ?_
        refine m_get hx hb hts in_X5_ofPilot hown hK hRH_12 0 (by decide) lk_X5_ofPilot_59 rfl rfl dX5_ofPilot_41 ?_
        refine z_top (b := 1) (by rw [zup_s]) ?_
        refine z_if_ne (tgt := 151) hx hb dX5_ofPilot_44 (by decide) (by omega) (fun c_16 => ?_) (fun c_16 => ?_)
        · refine lv_iload_n hx hb dX5_ofPilot_151 rfl (lv_at hl 4 rfl) ?_
          refine z_iconst hx hb dX5_ofPilot_152 ?_
          refine z_icmp_ne (tgt := 164) hx hb dX5_ofPilot_153 (by decide) (by omega) (fun c_17 => ?_) (fun c_17 => ?_)
          · refine lv_iload_n hx hb dX5_ofPilot_164 rfl (lv_at hl 1 rfl) ?_
            have ht : zth_ofP σ k w = 1 := by unfold zth_ofP; (repeat' split) <;> omega
            exact W.iret hx hb hr (z_endM (post := zPost (zth_ofP σ k w) (zan_ofP (zup σ 0 0 0) k w) ((zup σ 0 0 0)) (zup σ 0 0 (zth_ofP σ k w))) (σ' := (zup σ 0 0 1)) (v := some (.int (zI 0))) (zPost_no (a := 0) ht (by decide)) hRH_12 (hzH_12.trans rfl) hSH_12) hSH_12.2.2 dX5_ofPilot_165
          · refine lv_iload_n hx hb dX5_ofPilot_156 rfl (lv_at hl 1 rfl) ?_
            refine z_if_le (tgt := 164) hx hb dX5_ofPilot_157 (by decide) (by omega) (fun c_18 => ?_) (fun c_18 => ?_)
            · refine lv_iload_n hx hb dX5_ofPilot_164 rfl (lv_at hl 1 rfl) ?_
              have ht : zth_ofP σ k w = 1 := by unfold zth_ofP; (repeat' split) <;> omega
              exact W.iret hx hb hr (z_endM (post := zPost (zth_ofP σ k w) (zan_ofP (zup σ 0 0 0) k w) ((zup σ 0 0 0)) (zup σ 0 0 (zth_ofP σ k w))) (σ' := (zup σ 0 0 1)) (v := some (.int (zI 0))) (zPost_no (a := 0) ht (by decide)) hRH_12 (hzH_12.trans rfl) hSH_12) hSH_12.2.2 dX5_ofPilot_165
            · exact absurd c_18 (by decide)
        · exact absurd c_16 (by decide)
    · refine z_iconst hx hb dX5_ofPilot_18 ?_
      refine lv_goto (tgt := 23) hx hb dX5_ofPilot_19 (by decide) ?_
      refine m_put hx hb hts in_X5_ofPilot hown hK hR hM va_S.rf 0 (by decide) rfl lk_X5_ofPilot_59 rfl rfl rfl rfl dX5_ofPilot_23 (fun H_19 locsH_19 hRH_19 hzH_19 hSH_19 => ?_)
      refine z_iconst hx hb dX5_ofPilot_26 ?_
      refine lv_istore_n (lv' := [(3, .int (zI 0)), (0, .ref b), (1, .int (zI k)), (2, .int (zI w))]) hx hb dX5_ofPilot_27 rfl hl (by decide) rfl (fun ls hl => ?_)
      refine z_iconst hx hb dX5_ofPilot_28 ?_
      refine lv_istore (lv' := [(4, .int (zI 0)), (3, .int (zI 0)), (0, .ref b), (1, .int (zI k)), (2, .int (zI w))]) hx hb dX5_ofPilot_29 hl (by decide) rfl (fun ls hl => ?_)
      refine z_cap (fun WW wi wo => ?_)
      have hL : ∀ (n : Nat) (v i : Int) (ls : Array Slot) (HL : Heap) (locsL : List Loc), v = zSum (fun c => zP1 σ k (if w = 2 then 3 else 4) (if w = 1 then σ 8 (σ 15 c) else if w = 3 then σ 8 (σ 15 c) * σ 13 k else 1) c) i.toNat → 0 ≤ i ∧ i ≤ σ 14 0 → 0 ≤ v ∧ v ≤ 6000 * i → RM D cI b ma (zup σ 0 0 0) HL → HL.size = s.heap.size → va_S (AM b ma) s.heap HL locsL → (σ 14 0 - i).toNat < n → lv_has ls 6 [(0, .ref b), (1, .int (zI k)), (2, .int (zI w)), (3, .int (zI v)), (4, .int (zI i))] → WW HL locsL 0 0 (F0 m 31 ls []) := by
        intro n
        induction n with
        | zero => intro v i ls HL locsL hv hi hvr hRL hzL hSL hm; exact absurd hm (Nat.not_lt_zero _)
        | succ n ih =>
          intro v i ls HL locsL hv hi hvr hRL hzL hSL hm hl
          refine wi _ _ _ _ _ ?_
          refine lv_iload hx hb dX5_ofPilot_31 (lv_at hl 4 rfl) ?_
          refine lv_aload_n hx hb dX5_ofPilot_33 rfl (lv_at hl 0 rfl) ?_
          refine m_get hx hb hts in_X5_ofPilot hown hK hRL 14 (by decide) lk_X5_ofPilot_71 rfl rfl dX5_ofPilot_34 ?_
          refine z_top (b := σ 14 0) (by rw [zup_t (t := 0) (t' := 14) (by decide)]) ?_
          refine z_icmp_ge (tgt := 151) hx hb dX5_ofPilot_37 (by decide) (by omega) (fun c_20 => ?_) (fun c_20 => ?_)
          · refine lv_iload_n hx hb dX5_ofPilot_151 rfl (lv_at hl 2 rfl) ?_
            refine z_iconst hx hb dX5_ofPilot_152 ?_
            refine z_icmp_ne (tgt := 164) hx hb dX5_ofPilot_153 (by decide) (by omega) (fun c_21 => ?_) (fun c_21 => ?_)
            · refine lv_iload_n hx hb dX5_ofPilot_164 rfl (lv_at hl 3 rfl) ?_
              have ht : zth_ofP σ k w = 0 := by unfold zth_ofP; (repeat' split) <;> omega
              exact W.iret hx hb hr (z_endM (post := zPost (zth_ofP σ k w) (zan_ofP (zup σ 0 0 0) k w) ((zup σ 0 0 0)) (zup σ 0 0 (zth_ofP σ k w))) (σ' := (zup σ 0 0 0)) (v := some (.int (zI v))) (zPost_ok (a := v) ht (by show v = zan_ofP σ k w; rw [show i = σ 14 0 by omega] at hv; rcases (show w = 0 ∨ w = 1 ∨ w = 2 ∨ w = 3 by omega) with q | q | q | q <;> rw [q] at hv ⊢; exact hv; exact hv; (unfold zan_ofP; rw [if_neg (by omega), if_neg (by omega), if_pos rfl]; rw [show zSum (fun c => zP1 σ k 3 1 c) (σ 14 0).toNat = v from hv.symm, if_neg (by omega)]; omega); exact hv) rfl) hRL hzL hSL) hSL.2.2 dX5_ofPilot_165
            · refine lv_iload_n hx hb dX5_ofPilot_156 rfl (lv_at hl 3 rfl) ?_
              refine z_if_le (tgt := 164) hx hb dX5_ofPilot_157 (by decide) (by omega) (fun c_22 => ?_) (fun c_22 => ?_)
              · refine lv_iload_n hx hb dX5_ofPilot_164 rfl (lv_at hl 3 rfl) ?_
                have ht : zth_ofP σ k w = 0 := by unfold zth_ofP; (repeat' split) <;> omega
                exact W.iret hx hb hr (z_endM (post := zPost (zth_ofP σ k w) (zan_ofP (zup σ 0 0 0) k w) ((zup σ 0 0 0)) (zup σ 0 0 (zth_ofP σ k w))) (σ' := (zup σ 0 0 0)) (v := some (.int (zI v))) (zPost_ok (a := v) ht (by show v = zan_ofP σ k w; rw [show i = σ 14 0 by omega] at hv; rcases (show w = 0 ∨ w = 1 ∨ w = 2 ∨ w = 3 by omega) with q | q | q | q <;> rw [q] at hv ⊢; exact hv; exact hv; (unfold zan_ofP; rw [if_neg (by omega), if_neg (by omega), if_pos rfl]; rw [show zSum (fun c => zP1 σ k 3 1 c) (σ 14 0).toNat = v from hv.symm, if_neg (by omega)]; omega); exact hv) rfl) hRL hzL hSL) hSL.2.2 dX5_ofPilot_165
              · refine z_iconst hx hb dX5_ofPilot_160 ?_
                refine lv_goto (tgt := 165) hx hb dX5_ofPilot_161 (by decide) ?_
                have ht : zth_ofP σ k w = 0 := by unfold zth_ofP; (repeat' split) <;> omega
                exact W.iret hx hb hr (z_endM (post := zPost (zth_ofP σ k w) (zan_ofP (zup σ 0 0 0) k w) ((zup σ 0 0 0)) (zup σ 0 0 (zth_ofP σ k w))) (σ' := (zup σ 0 0 0)) (v := some (.int (zI 1))) (zPost_ok (a := 1) ht (by show 1 = zan_ofP σ k w; rw [show w = 2 by omega] at hv ⊢; rw [show i = σ 14 0 by omega] at hv; unfold zan_ofP; rw [if_neg (by omega), if_neg (by omega), if_pos rfl]; exact (if_pos (by rw [show zSum (fun c => zP1 σ k 3 1 c) (σ 14 0).toNat = v from hv.symm]; omega)).symm) rfl) hRL hzL hSL) hSL.2.2 dX5_ofPilot_165
          · have fi := hI.c (i := i) (by omega)
            have gi := hI.s (i := σ 15 i) (by omega)
            have gp := hI.p (i := k) (by omega)
            have gm : 0 ≤ σ 8 (σ 15 i) * σ 13 k ∧ σ 8 (σ 15 i) * σ 13 k ≤ 120 * 50 := ⟨Int.mul_nonneg (by omega) (by omega), Int.mul_le_mul (by omega) (by omega) (by omega) (by omega)⟩
            refine lv_aload_n hx hb dX5_ofPilot_40 rfl (lv_at hl 0 rfl) ?_
            refine m_get hx hb hts in_X5_ofPilot hown hK hRL 0 (by decide) lk_X5_ofPilot_59 rfl rfl dX5_ofPilot_41 ?_
            refine z_top (b := 0) (by rw [zup_s]) ?_
            refine z_if_ne (tgt := 151) hx hb dX5_ofPilot_44 (by decide) (by omega) (fun c_23 => ?_) (fun c_23 => ?_)
            · exact absurd c_23 (by decide)
            · refine lv_aload_n hx hb dX5_ofPilot_47 rfl (lv_at hl 0 rfl) ?_
              refine m_get hx hb hts in_X5_ofPilot hown hK hRL 18 (by decide) lk_X5_ofPilot_50 rfl rfl dX5_ofPilot_48 ?_
              refine lv_iload hx hb dX5_ofPilot_51 (lv_at hl 4 rfl) ?_
              refine m_ald hx hb hK hRL 18 rfl (by show 0 ≤ i ∧ i < ((40 : Nat) : Int); omega) dX5_ofPilot_53 ?_
              refine z_top (b := σ 18 i) (by rw [zup_t (t := 0) (t' := 18) (by decide)]) ?_
              refine lv_iload_n hx hb dX5_ofPilot_54 rfl (lv_at hl 1 rfl) ?_
              refine z_icmp_ne (tgt := 82) hx hb dX5_ofPilot_55 (by decide) (by omega) (fun c_24 => ?_) (fun c_24 => ?_)
              · refine z_iconst hx hb dX5_ofPilot_82 ?_
                refine lv_istore (lv' := [(5, .int (zI 0)), (0, .ref b), (1, .int (zI k)), (2, .int (zI w)), (3, .int (zI v)), (4, .int (zI i))]) hx hb dX5_ofPilot_83 hl (by decide) rfl (fun ls hl => ?_)
                refine lv_iload_n hx hb dX5_ofPilot_85 rfl (lv_at hl 4 rfl) ?_
                refine lv_iload hx hb dX5_ofPilot_86 (lv_at hl 0 rfl) ?_
                refine z_if_ne (tgt := 95) hx hb dX5_ofPilot_88 (by decide) (by omega) (fun c_25 => ?_) (fun c_25 => ?_)
                · exact absurd c_25 (by decide)
                · refine z_iconst hx hb dX5_ofPilot_91 ?_
                  refine lv_goto (tgt := 143) hx hb dX5_ofPilot_92 (by decide) ?_
                  refine z_iadd hx hb dX5_ofPilot_143 ?_
                  refine lv_istore_n (lv' := [(3, .int (zI (v + 0))), (5, .int (zI 0)), (0, .ref b), (1, .int (zI k)), (2, .int (zI w)), (4, .int (zI i))]) hx hb dX5_ofPilot_144 rfl hl (by decide) rfl (fun ls hl => ?_)
                  refine z_iinc (lv' := [(4, .int (zI (i + 1))), (3, .int (zI (v + 0))), (5, .int (zI 0)), (0, .ref b), (1, .int (zI k)), (2, .int (zI w))]) hx hb dX5_ofPilot_145 hl (k := 5) rfl (by decide) rfl (fun ls hl => ?_)
                  refine lv_goto (tgt := 31) hx hb dX5_ofPilot_148 (by decide) ?_
                  exact wo _ _ _ _ _ (ih (v + 0) (i + 1) ls _ _ (by rw [zSum_i _ hi.1, ← hv]; unfold zP1; first | (exfalso; omega) | (rw [if_pos (show σ 18 i = k ∧ σ 19 i = (if w = 2 then 3 else 4) by first | (rw [if_pos (by omega)]; omega) | (rw [if_neg (by omega)]; omega))]; first | (rw [if_pos (show w = 1 by omega)]) | (rw [if_neg (show ¬ w = 1 by omega), if_pos (show w = 3 by omega)]) | (rw [if_neg (show ¬ w = 1 by omega), if_neg (show ¬ w = 3 by omega)])) | (rw [if_neg (show ¬ (σ 18 i = k ∧ σ 19 i = (if w = 2 then 3 else 4)) by first | omega | (rw [if_pos (show w = 2 by omega)]; omega) | (rw [if_neg (show ¬ w = 2 by omega)]; omega))])) (by omega) (by omega) (by exact hRL) hzL hSL (by omega) (lv_sub hl [3, 4, 5, 1, 0] rfl))
              · refine lv_aload_n hx hb dX5_ofPilot_58 rfl (lv_at hl 0 rfl) ?_
                refine m_get hx hb hts in_X5_ofPilot hown hK hRL 19 (by decide) lk_X5_ofPilot_53 rfl rfl dX5_ofPilot_59 ?_
                refine lv_iload hx hb dX5_ofPilot_62 (lv_at hl 4 rfl) ?_
                refine m_ald hx hb hK hRL 19 rfl (by show 0 ≤ i ∧ i < ((40 : Nat) : Int); omega) dX5_ofPilot_64 ?_
                refine z_top (b := σ 19 i) (by rw [zup_t (t := 0) (t' := 19) (by decide)]) ?_
                refine lv_iload_n hx hb dX5_ofPilot_65 rfl (lv_at hl 2 rfl) ?_
                refine z_iconst hx hb dX5_ofPilot_66 ?_
                refine z_icmp_ne (tgt := 74) hx hb dX5_ofPilot_67 (by decide) (by omega) (fun c_26 => ?_) (fun c_26 => ?_)
                · refine z_iconst hx hb dX5_ofPilot_74 ?_
                  refine z_icmp_ne (tgt := 82) hx hb dX5_ofPilot_75 (by decide) (by omega) (fun c_27 => ?_) (fun c_27 => ?_)
                  · refine z_iconst hx hb dX5_ofPilot_82 ?_
                    refine lv_istore (lv' := [(5, .int (zI 0)), (0, .ref b), (1, .int (zI k)), (2, .int (zI w)), (3, .int (zI v)), (4, .int (zI i))]) hx hb dX5_ofPilot_83 hl (by decide) rfl (fun ls hl => ?_)
                    refine lv_iload_n hx hb dX5_ofPilot_85 rfl (lv_at hl 4 rfl) ?_
                    refine lv_iload hx hb dX5_ofPilot_86 (lv_at hl 0 rfl) ?_
                    refine z_if_ne (tgt := 95) hx hb dX5_ofPilot_88 (by decide) (by omega) (fun c_28 => ?_) (fun c_28 => ?_)
                    · exact absurd c_28 (by decide)
                    · refine z_iconst hx hb dX5_ofPilot_91 ?_
                      refine lv_goto (tgt := 143) hx hb dX5_ofPilot_92 (by decide) ?_
                      refine z_iadd hx hb dX5_ofPilot_143 ?_
                      refine lv_istore_n (lv' := [(3, .int (zI (v + 0))), (5, .int (zI 0)), (0, .ref b), (1, .int (zI k)), (2, .int (zI w)), (4, .int (zI i))]) hx hb dX5_ofPilot_144 rfl hl (by decide) rfl (fun ls hl => ?_)
                      refine z_iinc (lv' := [(4, .int (zI (i + 1))), (3, .int (zI (v + 0))), (5, .int (zI 0)), (0, .ref b), (1, .int (zI k)), (2, .int (zI w))]) hx hb dX5_ofPilot_145 hl (k := 5) rfl (by decide) rfl (fun ls hl => ?_)
                      refine lv_goto (tgt := 31) hx hb dX5_ofPilot_148 (by decide) ?_
                      exact wo _ _ _ _ _ (ih (v + 0) (i + 1) ls _ _ (by rw [zSum_i _ hi.1, ← hv]; unfold zP1; first | (exfalso; omega) | (rw [if_pos (show σ 18 i = k ∧ σ 19 i = (if w = 2 then 3 else 4) by first | (rw [if_pos (by omega)]; omega) | (rw [if_neg (by omega)]; omega))]; first | (rw [if_pos (show w = 1 by omega)]) | (rw [if_neg (show ¬ w = 1 by omega), if_pos (show w = 3 by omega)]) | (rw [if_neg (show ¬ w = 1 by omega), if_neg (show ¬ w = 3 by omega)])) | (rw [if_neg (show ¬ (σ 18 i = k ∧ σ 19 i = (if w = 2 then 3 else 4)) by first | omega | (rw [if_pos (show w = 2 by omega)]; omega) | (rw [if_neg (show ¬ w = 2 by omega)]; omega))])) (by omega) (by omega) (by exact hRL) hzL hSL (by omega) (lv_sub hl [3, 4, 5, 1, 0] rfl))
                  · refine z_iconst hx hb dX5_ofPilot_78 ?_
                    refine lv_goto (tgt := 83) hx hb dX5_ofPilot_79 (by decide) ?_
                    refine lv_istore (lv' := [(5, .int (zI 1)), (0, .ref b), (1, .int (zI k)), (2, .int (zI w)), (3, .int (zI v)), (4, .int (zI i))]) hx hb dX5_ofPilot_83 hl (by decide) rfl (fun ls hl => ?_)
                    refine lv_iload_n hx hb dX5_ofPilot_85 rfl (lv_at hl 4 rfl) ?_
                    refine lv_iload hx hb dX5_ofPilot_86 (lv_at hl 0 rfl) ?_
                    refine z_if_ne (tgt := 95) hx hb dX5_ofPilot_88 (by decide) (by omega) (fun c_29 => ?_) (fun c_29 => ?_)
                    · refine lv_iload_n hx hb dX5_ofPilot_95 rfl (lv_at hl 3 rfl) ?_
                      refine z_iconst hx hb dX5_ofPilot_96 ?_
                      refine z_icmp_ne (tgt := 115) hx hb dX5_ofPilot_97 (by decide) (by omega) (fun c_30 => ?_) (fun c_30 => ?_)
                      · refine lv_iload_n hx hb dX5_ofPilot_115 rfl (lv_at hl 3 rfl) ?_
                        refine z_iconst hx hb dX5_ofPilot_116 ?_
                        refine z_icmp_ne (tgt := 142) hx hb dX5_ofPilot_117 (by decide) (by omega) (fun c_31 => ?_) (fun c_31 => ?_)
                        · refine z_iconst hx hb dX5_ofPilot_142 ?_
                          refine z_iadd hx hb dX5_ofPilot_143 ?_
                          refine lv_istore_n (lv' := [(3, .int (zI (v + 1))), (5, .int (zI 1)), (0, .ref b), (1, .int (zI k)), (2, .int (zI w)), (4, .int (zI i))]) hx hb dX5_ofPilot_144 rfl hl (by decide) rfl (fun ls hl => ?_)
                          refine z_iinc (lv' := [(4, .int (zI (i + 1))), (3, .int (zI (v + 1))), (5, .int (zI 1)), (0, .ref b), (1, .int (zI k)), (2, .int (zI w))]) hx hb dX5_ofPilot_145 hl (k := 5) rfl (by decide) rfl (fun ls hl => ?_)
                          refine lv_goto (tgt := 31) hx hb dX5_ofPilot_148 (by decide) ?_
                          exact wo _ _ _ _ _ (ih (v + 1) (i + 1) ls _ _ (by rw [zSum_i _ hi.1, ← hv]; unfold zP1; first | (exfalso; omega) | (rw [if_pos (show σ 18 i = k ∧ σ 19 i = (if w = 2 then 3 else 4) by first | (rw [if_pos (by omega)]; omega) | (rw [if_neg (by omega)]; omega))]; first | (rw [if_pos (show w = 1 by omega)]) | (rw [if_neg (show ¬ w = 1 by omega), if_pos (show w = 3 by omega)]) | (rw [if_neg (show ¬ w = 1 by omega), if_neg (show ¬ w = 3 by omega)])) | (rw [if_neg (show ¬ (σ 18 i = k ∧ σ 19 i = (if w = 2 then 3 else 4)) by first | omega | (rw [if_pos (show w = 2 by omega)]; omega) | (rw [if_neg (show ¬ w = 2 by omega)]; omega))])) (by omega) (by omega) (by exact hRL) hzL hSL (by omega) (lv_sub hl [3, 4, 5, 1, 0] rfl))
                        · refine lv_aload_n hx hb dX5_ofPilot_120 rfl (lv_at hl 1 rfl) ?_
                          refine m_get hx hb hts in_X5_ofPilot hown hK hRL 8 (by decide) lk_X5_ofPilot_26 rfl rfl dX5_ofPilot_121 ?_
                          refine lv_aload_n hx hb dX5_ofPilot_124 rfl (lv_at hl 1 rfl) ?_
                          refine m_get hx hb hts in_X5_ofPilot hown hK hRL 15 (by decide) lk_X5_ofPilot_41 rfl rfl dX5_ofPilot_125 ?_
                          refine lv_iload hx hb dX5_ofPilot_128 (lv_at hl 5 rfl) ?_
                          refine m_ald hx hb hK hRL 15 rfl (by show 0 ≤ i ∧ i < ((40 : Nat) : Int); omega) dX5_ofPilot_130 ?_
                          refine z_top (b := σ 15 i) (by rw [zup_t (t := 0) (t' := 15) (by decide)]) ?_
                          refine m_ald hx hb hK hRL 8 rfl (by show 0 ≤ (σ 15 i) ∧ (σ 15 i) < ((12 : Nat) : Int); omega) dX5_ofPilot_131 ?_
                          refine z_top (b := σ 8 (σ 15 i)) (by rw [zup_t (t := 0) (t' := 8) (by decide)]) ?_
                          refine lv_aload_n hx hb dX5_ofPilot_132 rfl (lv_at hl 1 rfl) ?_
                          refine m_get hx hb hts in_X5_ofPilot hown hK hRL 13 (by decide) lk_X5_ofPilot_38 rfl rfl dX5_ofPilot_133 ?_
                          refine lv_iload_n hx hb dX5_ofPilot_136 rfl (lv_at hl 2 rfl) ?_
                          refine m_ald hx hb hK hRL 13 rfl (by show 0 ≤ k ∧ k < ((8 : Nat) : Int); omega) dX5_ofPilot_137 ?_
                          refine z_top (b := σ 13 k) (by rw [zup_t (t := 0) (t' := 13) (by decide)]) ?_
                          refine z_imul hx hb dX5_ofPilot_138 ?_
                          refine lv_goto (tgt := 143) hx hb dX5_ofPilot_139 (by decide) ?_
                          refine z_iadd hx hb dX5_ofPilot_143 ?_
                          refine lv_istore_n (lv' := [(3, .int (zI (v + ((σ 8 (σ 15 i)) * (σ 13 k))))), (5, .int (zI 1)), (0, .ref b), (1, .int (zI k)), (2, .int (zI w)), (4, .int (zI i))]) hx hb dX5_ofPilot_144 rfl hl (by decide) rfl (fun ls hl => ?_)
                          refine z_iinc (lv' := [(4, .int (zI (i + 1))), (3, .int (zI (v + ((σ 8 (σ 15 i)) * (σ 13 k))))), (5, .int (zI 1)), (0, .ref b), (1, .int (zI k)), (2, .int (zI w))]) hx hb dX5_ofPilot_145 hl (k := 5) rfl (by decide) rfl (fun ls hl => ?_)
                          refine lv_goto (tgt := 31) hx hb dX5_ofPilot_148 (by decide) ?_
                          exact wo _ _ _ _ _ (ih (v + ((σ 8 (σ 15 i)) * (σ 13 k))) (i + 1) ls _ _ (by rw [zSum_i _ hi.1, ← hv]; unfold zP1; first | (exfalso; omega) | (rw [if_pos (show σ 18 i = k ∧ σ 19 i = (if w = 2 then 3 else 4) by first | (rw [if_pos (by omega)]; omega) | (rw [if_neg (by omega)]; omega))]; first | (rw [if_pos (show w = 1 by omega)]) | (rw [if_neg (show ¬ w = 1 by omega), if_pos (show w = 3 by omega)]) | (rw [if_neg (show ¬ w = 1 by omega), if_neg (show ¬ w = 3 by omega)])) | (rw [if_neg (show ¬ (σ 18 i = k ∧ σ 19 i = (if w = 2 then 3 else 4)) by first | omega | (rw [if_pos (show w = 2 by omega)]; omega) | (rw [if_neg (show ¬ w = 2 by omega)]; omega))])) (by omega) (by omega) (by exact hRL) hzL hSL (by omega) (lv_sub hl [3, 4, 5, 1, 0] rfl))
                      · refine lv_aload_n hx hb dX5_ofPilot_100 rfl (lv_at hl 1 rfl) ?_
                        refine m_get hx hb hts in_X5_ofPilot hown hK hRL 8 (by decide) lk_X5_ofPilot_26 rfl rfl dX5_ofPilot_101 ?_
                        refine lv_aload_n hx hb dX5_ofPilot_104 rfl (lv_at hl 1 rfl) ?_
                        refine m_get hx hb hts in_X5_ofPilot hown hK hRL 15 (by decide) lk_X5_ofPilot_41 rfl rfl dX5_ofPilot_105 ?_
                        refine lv_iload hx hb dX5_ofPilot_108 (lv_at hl 5 rfl) ?_
                        refine m_ald hx hb hK hRL 15 rfl (by show 0 ≤ i ∧ i < ((40 : Nat) : Int); omega) dX5_ofPilot_110 ?_
                        refine z_top (b := σ 15 i) (by rw [zup_t (t := 0) (t' := 15) (by decide)]) ?_
                        refine m_ald hx hb hK hRL 8 rfl (by show 0 ≤ (σ 15 i) ∧ (σ 15 i) < ((12 : Nat) : Int); omega) dX5_ofPilot_111 ?_
                        refine z_top (b := σ 8 (σ 15 i)) (by rw [zup_t (t := 0) (t' := 8) (by decide)]) ?_
                        refine lv_goto (tgt := 143) hx hb dX5_ofPilot_112 (by decide) ?_
                        refine z_iadd hx hb dX5_ofPilot_143 ?_
                        refine lv_istore_n (lv' := [(3, .int (zI (v + (σ 8 (σ 15 i))))), (5, .int (zI 1)), (0, .ref b), (1, .int (zI k)), (2, .int (zI w)), (4, .int (zI i))]) hx hb dX5_ofPilot_144 rfl hl (by decide) rfl (fun ls hl => ?_)
                        refine z_iinc (lv' := [(4, .int (zI (i + 1))), (3, .int (zI (v + (σ 8 (σ 15 i))))), (5, .int (zI 1)), (0, .ref b), (1, .int (zI k)), (2, .int (zI w))]) hx hb dX5_ofPilot_145 hl (k := 5) rfl (by decide) rfl (fun ls hl => ?_)
                        refine lv_goto (tgt := 31) hx hb dX5_ofPilot_148 (by decide) ?_
                        exact wo _ _ _ _ _ (ih (v + (σ 8 (σ 15 i))) (i + 1) ls _ _ (by rw [zSum_i _ hi.1, ← hv]; unfold zP1; first | (exfalso; omega) | (rw [if_pos (show σ 18 i = k ∧ σ 19 i = (if w = 2 then 3 else 4) by first | (rw [if_pos (by omega)]; omega) | (rw [if_neg (by omega)]; omega))]; first | (rw [if_pos (show w = 1 by omega)]) | (rw [if_neg (show ¬ w = 1 by omega), if_pos (show w = 3 by omega)]) | (rw [if_neg (show ¬ w = 1 by omega), if_neg (show ¬ w = 3 by omega)])) | (rw [if_neg (show ¬ (σ 18 i = k ∧ σ 19 i = (if w = 2 then 3 else 4)) by first | omega | (rw [if_pos (show w = 2 by omega)]; omega) | (rw [if_neg (show ¬ w = 2 by omega)]; omega))])) (by omega) (by omega) (by exact hRL) hzL hSL (by omega) (lv_sub hl [3, 4, 5, 1, 0] rfl))
                    · exact absurd c_29 (by decide)
                · refine z_iconst hx hb dX5_ofPilot_70 ?_
                  refine lv_goto (tgt := 75) hx hb dX5_ofPilot_71 (by decide) ?_
                  refine z_icmp_ne (tgt := 82) hx hb dX5_ofPilot_75 (by decide) (by omega) (fun c_32 => ?_) (fun c_32 => ?_)
                  · refine z_iconst hx hb dX5_ofPilot_82 ?_
                    refine lv_istore (lv' := [(5, .int (zI 0)), (0, .ref b), (1, .int (zI k)), (2, .int (zI w)), (3, .int (zI v)), (4, .int (zI i))]) hx hb dX5_ofPilot_83 hl (by decide) rfl (fun ls hl => ?_)
                    refine lv_iload_n hx hb dX5_ofPilot_85 rfl (lv_at hl 4 rfl) ?_
                    refine lv_iload hx hb dX5_ofPilot_86 (lv_at hl 0 rfl) ?_
                    refine z_if_ne (tgt := 95) hx hb dX5_ofPilot_88 (by decide) (by omega) (fun c_33 => ?_) (fun c_33 => ?_)
                    · exact absurd c_33 (by decide)
                    · refine z_iconst hx hb dX5_ofPilot_91 ?_
                      refine lv_goto (tgt := 143) hx hb dX5_ofPilot_92 (by decide) ?_
                      refine z_iadd hx hb dX5_ofPilot_143 ?_
                      refine lv_istore_n (lv' := [(3, .int (zI (v + 0))), (5, .int (zI 0)), (0, .ref b), (1, .int (zI k)), (2, .int (zI w)), (4, .int (zI i))]) hx hb dX5_ofPilot_144 rfl hl (by decide) rfl (fun ls hl => ?_)
                      refine z_iinc (lv' := [(4, .int (zI (i + 1))), (3, .int (zI (v + 0))), (5, .int (zI 0)), (0, .ref b), (1, .int (zI k)), (2, .int (zI w))]) hx hb dX5_ofPilot_145 hl (k := 5) rfl (by decide) rfl (fun ls hl => ?_)
                      refine lv_goto (tgt := 31) hx hb dX5_ofPilot_148 (by decide) ?_
                      exact wo _ _ _ _ _ (ih (v + 0) (i + 1) ls _ _ (by rw [zSum_i _ hi.1, ← hv]; unfold zP1; first | (exfalso; omega) | (rw [if_pos (show σ 18 i = k ∧ σ 19 i = (if w = 2 then 3 else 4) by first | (rw [if_pos (by omega)]; omega) | (rw [if_neg (by omega)]; omega))]; first | (rw [if_pos (show w = 1 by omega)]) | (rw [if_neg (show ¬ w = 1 by omega), if_pos (show w = 3 by omega)]) | (rw [if_neg (show ¬ w = 1 by omega), if_neg (show ¬ w = 3 by omega)])) | (rw [if_neg (show ¬ (σ 18 i = k ∧ σ 19 i = (if w = 2 then 3 else 4)) by first | omega | (rw [if_pos (show w = 2 by omega)]; omega) | (rw [if_neg (show ¬ w = 2 by omega)]; omega))])) (by omega) (by omega) (by exact hRL) hzL hSL (by omega) (lv_sub hl [3, 4, 5, 1, 0] rfl))
                  · refine z_iconst hx hb dX5_ofPilot_78 ?_
                    refine lv_goto (tgt := 83) hx hb dX5_ofPilot_79 (by decide) ?_
                    refine lv_istore (lv' := [(5, .int (zI 1)), (0, .ref b), (1, .int (zI k)), (2, .int (zI w)), (3, .int (zI v)), (4, .int (zI i))]) hx hb dX5_ofPilot_83 hl (by decide) rfl (fun ls hl => ?_)
                    refine lv_iload_n hx hb dX5_ofPilot_85 rfl (lv_at hl 4 rfl) ?_
                    refine lv_iload hx hb dX5_ofPilot_86 (lv_at hl 0 rfl) ?_
                    refine z_if_ne (tgt := 95) hx hb dX5_ofPilot_88 (by decide) (by omega) (fun c_34 => ?_) (fun c_34 => ?_)
                    · refine lv_iload_n hx hb dX5_ofPilot_95 rfl (lv_at hl 3 rfl) ?_
                      refine z_iconst hx hb dX5_ofPilot_96 ?_
                      refine z_icmp_ne (tgt := 115) hx hb dX5_ofPilot_97 (by decide) (by omega) (fun c_35 => ?_) (fun c_35 => ?_)
                      · refine lv_iload_n hx hb dX5_ofPilot_115 rfl (lv_at hl 3 rfl) ?_
                        refine z_iconst hx hb dX5_ofPilot_116 ?_
                        refine z_icmp_ne (tgt := 142) hx hb dX5_ofPilot_117 (by decide) (by omega) (fun c_36 => ?_) (fun c_36 => ?_)
                        · refine z_iconst hx hb dX5_ofPilot_142 ?_
                          refine z_iadd hx hb dX5_ofPilot_143 ?_
                          refine lv_istore_n (lv' := [(3, .int (zI (v + 1))), (5, .int (zI 1)), (0, .ref b), (1, .int (zI k)), (2, .int (zI w)), (4, .int (zI i))]) hx hb dX5_ofPilot_144 rfl hl (by decide) rfl (fun ls hl => ?_)
                          refine z_iinc (lv' := [(4, .int (zI (i + 1))), (3, .int (zI (v + 1))), (5, .int (zI 1)), (0, .ref b), (1, .int (zI k)), (2, .int (zI w))]) hx hb dX5_ofPilot_145 hl (k := 5) rfl (by decide) rfl (fun ls hl => ?_)
                          refine lv_goto (tgt := 31) hx hb dX5_ofPilot_148 (by decide) ?_
                          exact wo _ _ _ _ _ (ih (v + 1) (i + 1) ls _ _ (by rw [zSum_i _ hi.1, ← hv]; unfold zP1; first | (exfalso; omega) | (rw [if_pos (show σ 18 i = k ∧ σ 19 i = (if w = 2 then 3 else 4) by first | (rw [if_pos (by omega)]; omega) | (rw [if_neg (by omega)]; omega))]; first | (rw [if_pos (show w = 1 by omega)]) | (rw [if_neg (show ¬ w = 1 by omega), if_pos (show w = 3 by omega)]) | (rw [if_neg (show ¬ w = 1 by omega), if_neg (show ¬ w = 3 by omega)])) | (rw [if_neg (show ¬ (σ 18 i = k ∧ σ 19 i = (if w = 2 then 3 else 4)) by first | omega | (rw [if_pos (show w = 2 by omega)]; omega) | (rw [if_neg (show ¬ w = 2 by omega)]; omega))])) (by omega) (by omega) (by exact hRL) hzL hSL (by omega) (lv_sub hl [3, 4, 5, 1, 0] rfl))
                        · refine lv_aload_n hx hb dX5_ofPilot_120 rfl (lv_at hl 1 rfl) ?_
                          refine m_get hx hb hts in_X5_ofPilot hown hK hRL 8 (by decide) lk_X5_ofPilot_26 rfl rfl dX5_ofPilot_121 ?_
                          refine lv_aload_n hx hb dX5_ofPilot_124 rfl (lv_at hl 1 rfl) ?_
                          refine m_get hx hb hts in_X5_ofPilot hown hK hRL 15 (by decide) lk_X5_ofPilot_41 rfl rfl dX5_ofPilot_125 ?_
                          refine lv_iload hx hb dX5_ofPilot_128 (lv_at hl 5 rfl) ?_
                          refine m_ald hx hb hK hRL 15 rfl (by show 0 ≤ i ∧ i < ((40 : Nat) : Int); omega) dX5_ofPilot_130 ?_
                          refine z_top (b := σ 15 i) (by rw [zup_t (t := 0) (t' := 15) (by decide)]) ?_
                          refine m_ald hx hb hK hRL 8 rfl (by show 0 ≤ (σ 15 i) ∧ (σ 15 i) < ((12 : Nat) : Int); omega) dX5_ofPilot_131 ?_
                          refine z_top (b := σ 8 (σ 15 i)) (by rw [zup_t (t := 0) (t' := 8) (by decide)]) ?_
                          refine lv_aload_n hx hb dX5_ofPilot_132 rfl (lv_at hl 1 rfl) ?_
                          refine m_get hx hb hts in_X5_ofPilot hown hK hRL 13 (by decide) lk_X5_ofPilot_38 rfl rfl dX5_ofPilot_133 ?_
                          refine lv_iload_n hx hb dX5_ofPilot_136 rfl (lv_at hl 2 rfl) ?_
                          refine m_ald hx hb hK hRL 13 rfl (by show 0 ≤ k ∧ k < ((8 : Nat) : Int); omega) dX5_ofPilot_137 ?_
                          refine z_top (b := σ 13 k) (by rw [zup_t (t := 0) (t' := 13) (by decide)]) ?_
                          refine z_imul hx hb dX5_ofPilot_138 ?_
                          refine lv_goto (tgt := 143) hx hb dX5_ofPilot_139 (by decide) ?_
                          refine z_iadd hx hb dX5_ofPilot_143 ?_
                          refine lv_istore_n (lv' := [(3, .int (zI (v + ((σ 8 (σ 15 i)) * (σ 13 k))))), (5, .int (zI 1)), (0, .ref b), (1, .int (zI k)), (2, .int (zI w)), (4, .int (zI i))]) hx hb dX5_ofPilot_144 rfl hl (by decide) rfl (fun ls hl => ?_)
                          refine z_iinc (lv' := [(4, .int (zI (i + 1))), (3, .int (zI (v + ((σ 8 (σ 15 i)) * (σ 13 k))))), (5, .int (zI 1)), (0, .ref b), (1, .int (zI k)), (2, .int (zI w))]) hx hb dX5_ofPilot_145 hl (k := 5) rfl (by decide) rfl (fun ls hl => ?_)
                          refine lv_goto (tgt := 31) hx hb dX5_ofPilot_148 (by decide) ?_
                          exact wo _ _ _ _ _ (ih (v + ((σ 8 (σ 15 i)) * (σ 13 k))) (i + 1) ls _ _ (by rw [zSum_i _ hi.1, ← hv]; unfold zP1; first | (exfalso; omega) | (rw [if_pos (show σ 18 i = k ∧ σ 19 i = (if w = 2 then 3 else 4) by first | (rw [if_pos (by omega)]; omega) | (rw [if_neg (by omega)]; omega))]; first | (rw [if_pos (show w = 1 by omega)]) | (rw [if_neg (show ¬ w = 1 by omega), if_pos (show w = 3 by omega)]) | (rw [if_neg (show ¬ w = 1 by omega), if_neg (show ¬ w = 3 by omega)])) | (rw [if_neg (show ¬ (σ 18 i = k ∧ σ 19 i = (if w = 2 then 3 else 4)) by first | omega | (rw [if_pos (show w = 2 by omega)]; omega) | (rw [if_neg (show ¬ w = 2 by omega)]; omega))])) (by omega) (by omega) (by exact hRL) hzL hSL (by omega) (lv_sub hl [3, 4, 5, 1, 0] rfl))
                      · refine lv_aload_n hx hb dX5_ofPilot_100 rfl (lv_at hl 1 rfl) ?_
                        refine m_get hx hb hts in_X5_ofPilot hown hK hRL 8 (by decide) lk_X5_ofPilot_26 rfl rfl dX5_ofPilot_101 ?_
                        refine lv_aload_n hx hb dX5_ofPilot_104 rfl (lv_at hl 1 rfl) ?_
                        refine m_get hx hb hts in_X5_ofPilot hown hK hRL 15 (by decide) lk_X5_ofPilot_41 rfl rfl dX5_ofPilot_105 ?_
                        refine lv_iload hx hb dX5_ofPilot_108 (lv_at hl 5 rfl) ?_
                        refine m_ald hx hb hK hRL 15 rfl (by show 0 ≤ i ∧ i < ((40 : Nat) : Int); omega) dX5_ofPilot_110 ?_
                        refine z_top (b := σ 15 i) (by rw [zup_t (t := 0) (t' := 15) (by decide)]) ?_
                        refine m_ald hx hb hK hRL 8 rfl (by show 0 ≤ (σ 15 i) ∧ (σ 15 i) < ((12 : Nat) : Int); omega) dX5_ofPilot_111 ?_
                        refine z_top (b := σ 8 (σ 15 i)) (by rw [zup_t (t := 0) (t' := 8) (by decide)]) ?_
                        refine lv_goto (tgt := 143) hx hb dX5_ofPilot_112 (by decide) ?_
                        refine z_iadd hx hb dX5_ofPilot_143 ?_
                        refine lv_istore_n (lv' := [(3, .int (zI (v + (σ 8 (σ 15 i))))), (5, .int (zI 1)), (0, .ref b), (1, .int (zI k)), (2, .int (zI w)), (4, .int (zI i))]) hx hb dX5_ofPilot_144 rfl hl (by decide) rfl (fun ls hl => ?_)
                        refine z_iinc (lv' := [(4, .int (zI (i + 1))), (3, .int (zI (v + (σ 8 (σ 15 i))))), (5, .int (zI 1)), (0, .ref b), (1, .int (zI k)), (2, .int (zI w))]) hx hb dX5_ofPilot_145 hl (k := 5) rfl (by decide) rfl (fun ls hl => ?_)
                        refine lv_goto (tgt := 31) hx hb dX5_ofPilot_148 (by decide) ?_
                        exact wo _ _ _ _ _ (ih (v + (σ 8 (σ 15 i))) (i + 1) ls _ _ (by rw [zSum_i _ hi.1, ← hv]; unfold zP1; first | (exfalso; omega) | (rw [if_pos (show σ 18 i = k ∧ σ 19 i = (if w = 2 then 3 else 4) by first | (rw [if_pos (by omega)]; omega) | (rw [if_neg (by omega)]; omega))]; first | (rw [if_pos (show w = 1 by omega)]) | (rw [if_neg (show ¬ w = 1 by omega), if_pos (show w = 3 by omega)]) | (rw [if_neg (show ¬ w = 1 by omega), if_neg (show ¬ w = 3 by omega)])) | (rw [if_neg (show ¬ (σ 18 i = k ∧ σ 19 i = (if w = 2 then 3 else 4)) by first | omega | (rw [if_pos (show w = 2 by omega)]; omega) | (rw [if_neg (show ¬ w = 2 by omega)]; omega))])) (by omega) (by omega) (by exact hRL) hzL hSL (by omega) (lv_sub hl [3, 4, 5, 1, 0] rfl))
                    · exact absurd c_34 (by decide)
      exact wo _ _ _ _ _ (hL _ 0 0 ls _ _ (by rfl) (by omega) (by omega) (by exact hRH_19) (hzH_19.trans rfl) hSH_19 (Nat.lt_succ_self _) (lv_sub hl [2, 3, 4, 1, 0] rfl))

theorem lk_X5_drop_59 : Cond.fieldLink RX5 59 "HarbourPilotlineModel" "thrown" "I" ∈ wsX5_drop := by decide +kernel
theorem lk_X5_drop_53 : Cond.fieldLink RX5 53 "HarbourPilotlineModel" "state" "[I" ∈ wsX5_drop := by decide +kernel
theorem lk_X5_drop_47 : Cond.fieldLink RX5 47 "HarbourPilotlineModel" "in" "[I" ∈ wsX5_drop := by decide +kernel
theorem lk_X5_drop_50 : Cond.fieldLink RX5 50 "HarbourPilotlineModel" "pilot" "[I" ∈ wsX5_drop := by decide +kernel
theorem lk_X5_drop_56 : Cond.fieldLink RX5 56 "HarbourPilotlineModel" "slot" "[I" ∈ wsX5_drop := by decide +kernel
theorem lk_X5_drop_71 : Cond.fieldLink RX5 71 "HarbourPilotlineModel" "conferences" "I" ∈ wsX5_drop := by decide +kernel
theorem lk_X5_drop_127 : Cond.fieldLink RX5 127 "HarbourPilotlineModel" "moved" "I" ∈ wsX5_drop := by decide +kernel
theorem in_X5_drop : ∀ w ∈ wsX50, w ∈ wsX5_drop := by decide +kernel
set_option maxRecDepth 100000 in
set_option maxHeartbeats 4000000 in
theorem c_X5_drop (l : Launch) (D : va_G) (cI cO cL : ClassId) (b : Nat) (ma : Nat → Nat) (hM : MA b ma) (σ : zT) (H0 : Heap) (hR : RM D cI b ma σ H0) (k w : Int) (hI : zInv σ) (hk : (-2147483648 ≤ k ∧ k < 2147483648)) (hw : (-2147483648 ≤ w ∧ w < 2147483648)) : zWM l yX5_drop wsX5_drop ({ frames := 5, cells := 0, slots := 0, locals := 117 }) D cI cO cL b ma [.ref b, .int (zI k), .int (zI w)] H0 (zPost (zth_drop σ k w) (zan_drop (zup σ 0 0 0) k w) (zst_drop (zup σ 0 0 0) k w) (zup σ 0 0 (zth_drop σ k w))) := by
  refine Met.ofW (cc := cX5_drop) (maxL := 6) (ret := (some .int)) (by decide) rfl ?_
  intro p e s m args below meth c s₁ B hml hv
  obtain ⟨rfl, hH, hK⟩ := hv
  subst hH
  have hx := B.exec
  have hb := B.bytes
  have hr := B.returns
  have hts := atoms_spec (ws := wsX5_drop) B.pre
  have hown : s.vm.findClass RX5 = some m.cls := findClass_of_methodNamed B.named
  have hlocks := B.notSynchronized
  have hl := lv_entry ([.ref b, .int (zI k), .int (zI w)]) (n := 6) (Nat.le_of_ble_eq_true rfl)
  rw [lg_entry_eq]
  generalize (lg_sl ([.ref b, .int (zI k), .int (zI w)]) ++ List.replicate (6 - (lg_sl ([.ref b, .int (zI k), .int (zI w)])).length) Slot.unset).toArray = ls at hl ⊢
  have hl : lv_has ls 6 [(0, .ref b), (1, .int (zI k)), (2, .int (zI w))] := hl
  have f0 := hI.r
  refine lv_aload_n hx hb dX5_drop_0 rfl (lv_at hl 0 rfl) ?_
  refine lv_aload_n hx hb dX5_drop_1 rfl (lv_at hl 0 rfl) ?_
  refine lv_iload_n hx hb dX5_drop_2 rfl (lv_at hl 1 rfl) ?_
  refine z_cv (As := [.int (zI k)]) (rest := [.ref b]) ⟨hx, hb, hml, hown, hts⟩ (c_X5_isConference l D cI cO cL b ma σ s.heap hR k (by omega) (by omega)) (cwV 1 hts gX5_drop_X5_isConference rfl rfl rfl (by decide +kernel) ⟨Nat.le_of_ble_eq_true rfl, Nat.le_of_ble_eq_true rfl⟩) (zKK_mv D cI cO cL) (fun U _ hv => va_K.moved hv hK) (m_recv hK hR) rfl hl.1 rfl (Nat.le_of_ble_eq_true rfl) dX5_drop_3 ⟨Nat.zero_le _, Nat.zero_le _⟩ (fun r_1 hr_1 => ?_)
  rw [hr_1]
  refine z_ifb_eq (tgt := 22) hx hb dX5_drop_6 (by decide) (fun c_2 => ?_) (fun c_2 => ?_)
  · refine z_iconst hx hb dX5_drop_22 ?_
    refine m_put hx hb hts in_X5_drop hown hK hR hM va_S.rf 0 (by decide) rfl lk_X5_drop_59 rfl rfl rfl rfl dX5_drop_23 (fun H_3 locsH_3 hRH_3 hzH_3 hSH_3 => ?_)
    refine lv_aload_n hx hb dX5_drop_26 rfl (lv_at hl 0 rfl) ?_
    refine m_get hx hb hts in_X5_drop hown hK hRH_3 0 (by decide) lk_X5_drop_59 rfl rfl dX5_drop_27 ?_
    refine z_top (b := 1) (by rw [zup_s]) ?_
    refine z_if_ne (tgt := 61) hx hb dX5_drop_30 (by decide) (by omega) (fun c_4 => ?_) (fun c_4 => ?_)
    · refine lv_aload_n hx hb dX5_drop_61 rfl (lv_at hl 0 rfl) ?_
      refine m_get hx hb hts in_X5_drop hown hK hRH_3 0 (by decide) lk_X5_drop_59 rfl rfl dX5_drop_62 ?_
      refine z_top (b := 1) (by rw [zup_s]) ?_
      refine z_if_le (tgt := 70) hx hb dX5_drop_65 (by decide) (by omega) (fun c_5 => ?_) (fun c_5 => ?_)
      · exact absurd c_5 (by decide)
      · refine z_iconst hx hb dX5_drop_68 ?_
        have ht : zth_drop σ k w = 1 := by unfold zth_drop; (repeat' split) <;> omega
        exact W.iret hx hb hr (z_endM (post := zPost (zth_drop σ k w) (zan_drop (zup σ 0 0 0) k w) (zst_drop (zup σ 0 0 0) k w) (zup σ 0 0 (zth_drop σ k w))) (σ' := (zup σ 0 0 1)) (v := some (.int (zI 0))) (zPost_no (a := 0) ht (by decide)) hRH_3 (hzH_3.trans rfl) hSH_3) hSH_3.2.2 dX5_drop_69
    · exact absurd c_4 (by decide)
  · have fk := hI.c (i := k) (by omega)
    have gk := hI.s (i := σ 15 k) (by omega)
    refine lv_iload_n hx hb dX5_drop_9 rfl (lv_at hl 2 rfl) ?_
    refine z_iconst hx hb dX5_drop_10 ?_
    refine z_iconst hx hb dX5_drop_11 ?_
    refine z_cs (As := [.int (zI w), .int (zI 0), .int (zI 2)]) (rest := [.ref b]) ⟨hx, hb, hml, hown, hts⟩ (c_X5_in l D cI cO cL b ma σ s.heap hR w 0 2 (by omega)) (va_cwS 3 hts gX5_drop_X5_in rfl rfl rfl (by decide +kernel) ⟨Nat.le_of_ble_eq_true rfl, Nat.le_of_ble_eq_true rfl⟩) (zKK_mv D cI cO cL) (fun U _ hv => va_K.moved hv hK) rfl hl.1 rfl (Nat.le_of_ble_eq_true rfl) dX5_drop_12 ⟨Nat.zero_le _, Nat.zero_le _⟩ (fun r_6 hr_6 => ?_)
    rw [hr_6]
    refine z_ifb_eq (tgt := 22) hx hb dX5_drop_15 (by decide) (fun c_7 => ?_) (fun c_7 => ?_)
    · refine z_iconst hx hb dX5_drop_22 ?_
      refine m_put hx hb hts in_X5_drop hown hK hR hM va_S.rf 0 (by decide) rfl lk_X5_drop_59 rfl rfl rfl rfl dX5_drop_23 (fun H_8 locsH_8 hRH_8 hzH_8 hSH_8 => ?_)
      refine lv_aload_n hx hb dX5_drop_26 rfl (lv_at hl 0 rfl) ?_
      refine m_get hx hb hts in_X5_drop hown hK hRH_8 0 (by decide) lk_X5_drop_59 rfl rfl dX5_drop_27 ?_
      refine z_top (b := 1) (by rw [zup_s]) ?_
      refine z_if_ne (tgt := 61) hx hb dX5_drop_30 (by decide) (by omega) (fun c_9 => ?_) (fun c_9 => ?_)
      · refine lv_aload_n hx hb dX5_drop_61 rfl (lv_at hl 0 rfl) ?_
        refine m_get hx hb hts in_X5_drop hown hK hRH_8 0 (by decide) lk_X5_drop_59 rfl rfl dX5_drop_62 ?_
        refine z_top (b := 1) (by rw [zup_s]) ?_
        refine z_if_le (tgt := 70) hx hb dX5_drop_65 (by decide) (by omega) (fun c_10 => ?_) (fun c_10 => ?_)
        · exact absurd c_10 (by decide)
        · refine z_iconst hx hb dX5_drop_68 ?_
          have ht : zth_drop σ k w = 1 := by unfold zth_drop; (repeat' split) <;> omega
          exact W.iret hx hb hr (z_endM (post := zPost (zth_drop σ k w) (zan_drop (zup σ 0 0 0) k w) (zst_drop (zup σ 0 0 0) k w) (zup σ 0 0 (zth_drop σ k w))) (σ' := (zup σ 0 0 1)) (v := some (.int (zI 0))) (zPost_no (a := 0) ht (by decide)) hRH_8 (hzH_8.trans rfl) hSH_8) hSH_8.2.2 dX5_drop_69
      · exact absurd c_9 (by decide)
    · refine z_iconst hx hb dX5_drop_18 ?_
      refine lv_goto (tgt := 23) hx hb dX5_drop_19 (by decide) ?_
      refine m_put hx hb hts in_X5_drop hown hK hR hM va_S.rf 0 (by decide) rfl lk_X5_drop_59 rfl rfl rfl rfl dX5_drop_23 (fun H_11 locsH_11 hRH_11 hzH_11 hSH_11 => ?_)
      refine lv_aload_n hx hb dX5_drop_26 rfl (lv_at hl 0 rfl) ?_
      refine m_get hx hb hts in_X5_drop hown hK hRH_11 0 (by decide) lk_X5_drop_59 rfl rfl dX5_drop_27 ?_
      refine z_top (b := 0) (by rw [zup_s]) ?_
      refine z_if_ne (tgt := 61) hx hb dX5_drop_30 (by decide) (by omega) (fun c_12 => ?_) (fun c_12 => ?_)
      · exact absurd c_12 (by decide)
      · refine lv_aload_n hx hb dX5_drop_33 rfl (lv_at hl 0 rfl) ?_
        refine lv_aload_n hx hb dX5_drop_34 rfl (lv_at hl 0 rfl) ?_
        refine lv_iload_n hx hb dX5_drop_35 rfl (lv_at hl 1 rfl) ?_
        refine lv_iload_n hx hb dX5_drop_36 rfl (lv_at hl 2 rfl) ?_
        refine z_cv (As := [.int (zI k), .int (zI w)]) (rest := [.ref b]) ⟨hx, hb, hml, hown, hts⟩ (c_X5_isIn l D cI cO cL b ma (zup σ 0 0 0) H_11 hRH_11 k w (zInv_th hI 0) (by show 0 ≤ k ∧ k < σ 14 0; omega) (by show 0 ≤ w ∧ w ≤ 2; omega)) (cwV 2 hts gX5_drop_X5_isIn rfl rfl rfl (by decide +kernel) ⟨Nat.le_of_ble_eq_true rfl, Nat.le_of_ble_eq_true rfl⟩) (zKK_mv D cI cO cL) (fun U _ hv => va_K.moved hv hK) (m_recv hK hRH_11) rfl hl.1 rfl (Nat.le_of_ble_eq_true rfl) dX5_drop_37 ⟨Nat.zero_le _, Nat.zero_le _⟩ (fun r_13 hr_13 => ?_)
        rw [hr_13]
        refine z_top (a := bI (zBit ((zup σ 0 0 0) 17 k) w = 1)) (b := bI (zBit (σ 17 k) w = 1)) rfl ?_
        refine z_ifb_eq (tgt := 53) hx hb dX5_drop_40 (by decide) (fun c_14 => ?_) (fun c_14 => ?_)
        · refine z_iconst hx hb dX5_drop_53 ?_
          refine lv_goto (tgt := 58) hx hb dX5_drop_54 (by decide) ?_
          refine m_put hx hb hts in_X5_drop hown hK hRH_11 hM hSH_11 0 (by decide) rfl lk_X5_drop_59 rfl rfl rfl rfl dX5_drop_58 (fun H_15 locsH_15 hRH_15 hzH_15 hSH_15 => ?_)
          rw [zup_2] at hRH_15
          refine lv_aload_n hx hb dX5_drop_61 rfl (lv_at hl 0 rfl) ?_
          refine m_get hx hb hts in_X5_drop hown hK hRH_15 0 (by decide) lk_X5_drop_59 rfl rfl dX5_drop_62 ?_
          refine z_top (b := 2) (by rw [zup_s]) ?_
          refine z_if_le (tgt := 70) hx hb dX5_drop_65 (by decide) (by omega) (fun c_16 => ?_) (fun c_16 => ?_)
          · exact absurd c_16 (by decide)
          · refine z_iconst hx hb dX5_drop_68 ?_
            have ht : zth_drop σ k w = 2 := by unfold zth_drop; (repeat' split) <;> omega
            exact W.iret hx hb hr (z_endM (post := zPost (zth_drop σ k w) (zan_drop (zup σ 0 0 0) k w) (zst_drop (zup σ 0 0 0) k w) (zup σ 0 0 (zth_drop σ k w))) (σ' := (zup σ 0 0 2)) (v := some (.int (zI 0))) (zPost_no (a := 0) ht (by decide)) hRH_15 (hzH_15.trans (hzH_11.trans rfl)) hSH_15) hSH_15.2.2 dX5_drop_69
        · refine lv_aload_n hx hb dX5_drop_43 rfl (lv_at hl 0 rfl) ?_
          refine m_get hx hb hts in_X5_drop hown hK hRH_11 19 (by decide) lk_X5_drop_53 rfl rfl dX5_drop_44 ?_
          refine lv_iload_n hx hb dX5_drop_47 rfl (lv_at hl 1 rfl) ?_
          refine m_ald hx hb hK hRH_11 19 rfl (by show 0 ≤ k ∧ k < ((40 : Nat) : Int); omega) dX5_drop_48 ?_
          refine z_top (b := σ 19 k) (by rw [zup_t (t := 0) (t' := 19) (by decide)]) ?_
          refine z_iconst hx hb dX5_drop_49 ?_
          refine z_icmp_lt (tgt := 57) hx hb dX5_drop_50 (by decide) (by omega) (fun c_17 => ?_) (fun c_17 => ?_)
          · refine z_iconst hx hb dX5_drop_57 ?_
            refine m_put hx hb hts in_X5_drop hown hK hRH_11 hM hSH_11 0 (by decide) rfl lk_X5_drop_59 rfl rfl rfl rfl dX5_drop_58 (fun H_18 locsH_18 hRH_18 hzH_18 hSH_18 => ?_)
            rw [zup_2] at hRH_18
            refine lv_aload_n hx hb dX5_drop_61 rfl (lv_at hl 0 rfl) ?_
            refine m_get hx hb hts in_X5_drop hown hK hRH_18 0 (by decide) lk_X5_drop_59 rfl rfl dX5_drop_62 ?_
            refine z_top (b := 0) (by rw [zup_s]) ?_
            refine z_if_le (tgt := 70) hx hb dX5_drop_65 (by decide) (by omega) (fun c_19 => ?_) (fun c_19 => ?_)
            · refine lv_aload_n hx hb dX5_drop_70 rfl (lv_at hl 0 rfl) ?_
              refine m_get hx hb hts in_X5_drop hown hK hRH_18 19 (by decide) lk_X5_drop_53 rfl rfl dX5_drop_71 ?_
              refine lv_iload_n hx hb dX5_drop_74 rfl (lv_at hl 1 rfl) ?_
              refine m_ald hx hb hK hRH_18 19 rfl (by show 0 ≤ k ∧ k < ((40 : Nat) : Int); omega) dX5_drop_75 ?_
              refine z_top (b := σ 19 k) (by rw [zup_t (t := 0) (t' := 19) (by decide)]) ?_
              refine z_iconst hx hb dX5_drop_76 ?_
              refine z_icmp_ne (tgt := 84) hx hb dX5_drop_77 (by decide) (by omega) (fun c_20 => ?_) (fun c_20 => ?_)
              · refine z_iconst hx hb dX5_drop_84 ?_
                refine lv_istore_n (lv' := [(3, .int (zI 0)), (0, .ref b), (1, .int (zI k)), (2, .int (zI w))]) hx hb dX5_drop_85 rfl hl (by decide) rfl (fun ls hl => ?_)
                refine lv_aload_n hx hb dX5_drop_86 rfl (lv_at hl 1 rfl) ?_
                refine m_get hx hb hts in_X5_drop hown hK hRH_18 17 (by decide) lk_X5_drop_47 rfl rfl dX5_drop_87 ?_
                refine lv_iload_n hx hb dX5_drop_90 rfl (lv_at hl 2 rfl) ?_
                refine lv_dup2_11 hx hb dX5_drop_91 rfl rfl ?_
                refine m_ald hx hb hK hRH_18 17 rfl (by show 0 ≤ k ∧ k < ((40 : Nat) : Int); omega) dX5_drop_92 ?_
                refine z_top (b := σ 17 k) (by rw [zup_t (t := 0) (t' := 17) (by decide)]) ?_
                refine z_iconst hx hb dX5_drop_93 ?_
                refine lv_iload_n hx hb dX5_drop_94 rfl (lv_at hl 3 rfl) ?_
                refine z_ishl hx hb dX5_drop_95 (by omega) ?_
                refine z_iconst hx hb dX5_drop_96 ?_
                refine z_inot hx hb dX5_drop_97 (by omega) ?_
                refine z_iclr hx hb dX5_drop_98 (by omega) ?_
                refine m_ast hx hb hK hRH_18 hM hSH_18 17 rfl (by show 0 ≤ k ∧ k < ((40 : Nat) : Int); omega) dX5_drop_99 (fun H_21 locsH_21 hRH_21 hzH_21 hSH_21 => ?_)
                refine lv_aload_n hx hb dX5_drop_100 rfl (lv_at hl 1 rfl) ?_
                refine m_get hx hb hts in_X5_drop hown hK hRH_21 18 (by decide) lk_X5_drop_50 rfl rfl dX5_drop_101 ?_
                refine lv_iload_n hx hb dX5_drop_104 rfl (lv_at hl 2 rfl) ?_
                refine lv_iload_n hx hb dX5_drop_105 rfl (lv_at hl 3 rfl) ?_
                refine z_iconst hx hb dX5_drop_106 ?_
                refine z_icmp_ne (tgt := 114) hx hb dX5_drop_107 (by decide) (by omega) (fun c_22 => ?_) (fun c_22 => ?_)
                · refine lv_aload_n hx hb dX5_drop_114 rfl (lv_at hl 1 rfl) ?_
                  refine m_get hx hb hts in_X5_drop hown hK hRH_21 18 (by decide) lk_X5_drop_50 rfl rfl dX5_drop_115 ?_
                  refine lv_iload_n hx hb dX5_drop_118 rfl (lv_at hl 2 rfl) ?_
                  refine m_ald hx hb hK hRH_21 18 rfl (by show 0 ≤ k ∧ k < ((40 : Nat) : Int); omega) dX5_drop_119 ?_
                  refine z_top (b := σ 18 k) (by rw [zup_t (t := 17) (t' := 18) (by decide), zup_t (t := 0) (t' := 18) (by decide)]) ?_
                  refine m_ast hx hb hK hRH_21 hM hSH_21 18 rfl (by show 0 ≤ k ∧ k < ((40 : Nat) : Int); omega) dX5_drop_120 (fun H_23 locsH_23 hRH_23 hzH_23 hSH_23 => ?_)
                  refine lv_aload_n hx hb dX5_drop_121 rfl (lv_at hl 1 rfl) ?_
                  refine m_get hx hb hts in_X5_drop hown hK hRH_23 20 (by decide) lk_X5_drop_56 rfl rfl dX5_drop_122 ?_
                  refine lv_iload_n hx hb dX5_drop_125 rfl (lv_at hl 2 rfl) ?_
                  refine z_iconst hx hb dX5_drop_126 ?_
                  refine m_ast hx hb hK hRH_23 hM hSH_23 20 rfl (by show 0 ≤ k ∧ k < ((40 : Nat) : Int); omega) dX5_drop_127 (fun H_24 locsH_24 hRH_24 hzH_24 hSH_24 => ?_)
                  refine lv_aload_n hx hb dX5_drop_128 rfl (lv_at hl 1 rfl) ?_
                  refine m_get hx hb hts in_X5_drop hown hK hRH_24 19 (by decide) lk_X5_drop_53 rfl rfl dX5_drop_129 ?_
                  refine lv_iload_n hx hb dX5_drop_132 rfl (lv_at hl 2 rfl) ?_
                  refine z_iconst hx hb dX5_drop_133 ?_
                  refine m_ast hx hb hK hRH_24 hM hSH_24 19 rfl (by show 0 ≤ k ∧ k < ((40 : Nat) : Int); omega) dX5_drop_134 (fun H_25 locsH_25 hRH_25 hzH_25 hSH_25 => ?_)
                  refine z_iconst hx hb dX5_drop_135 ?_
                  refine lv_istore (lv' := [(4, .int (zI 0)), (3, .int (zI 0)), (0, .ref b), (1, .int (zI k)), (2, .int (zI w))]) hx hb dX5_drop_136 hl (by decide) rfl (fun ls hl => ?_)
                  refine z_iconst hx hb dX5_drop_138 ?_
                  refine lv_istore (lv' := [(5, .int (zI 0)), (4, .int (zI 0)), (3, .int (zI 0)), (0, .ref b), (1, .int (zI k)), (2, .int (zI w))]) hx hb dX5_drop_139 hl (by decide) rfl (fun ls hl => ?_)
                  have eD : zdr (zup σ 0 0 0) k w = (zup (zup (zup (zup (zup σ 0 0 0) 17 k (zClr (σ 17 k) w)) 18 k (σ 18 k)) 20 k (-1)) 19 k 0) := by unfold zdr; rw [if_neg (show ¬ w = 2 by omega)]; rfl
                  refine lv_iload hx hb dX5_drop_141 (lv_at hl 0 rfl) ?_
                  refine lv_aload_n hx hb dX5_drop_143 rfl (lv_at hl 3 rfl) ?_
                  refine m_get hx hb hts in_X5_drop hown hK hRH_25 14 (by decide) lk_X5_drop_71 rfl rfl dX5_drop_144 ?_
                  refine z_top (b := σ 14 0) (by rw [zup_t (t := 19) (t' := 14) (by decide), zup_t (t := 20) (t' := 14) (by decide), zup_t (t := 18) (t' := 14) (by decide), zup_t (t := 17) (t' := 14) (by decide), zup_t (t := 0) (t' := 14) (by decide)]) ?_
                  refine z_icmp_ge (tgt := 201) hx hb dX5_drop_147 (by decide) (by omega) (fun c_26 => ?_) (fun c_26 => ?_)
                  · refine lv_aload_n hx hb dX5_drop_201 rfl (lv_at hl 3 rfl) ?_
                    refine lv_dup hx hb dX5_drop_202 rfl ?_
                    refine m_get hx hb hts in_X5_drop hown hK hRH_25 21 (by decide) lk_X5_drop_127 rfl rfl dX5_drop_203 ?_
                    refine z_top (b := σ 21 0) (by rw [zup_t (t := 19) (t' := 21) (by decide), zup_t (t := 20) (t' := 21) (by decide), zup_t (t := 18) (t' := 21) (by decide), zup_t (t := 17) (t' := 21) (by decide), zup_t (t := 0) (t' := 21) (by decide)]) ?_
                    refine lv_iload hx hb dX5_drop_206 (lv_at hl 1 rfl) ?_
                    refine z_iadd hx hb dX5_drop_208 ?_
                    refine m_put hx hb hts in_X5_drop hown hK hRH_25 hM hSH_25 21 (by decide) rfl lk_X5_drop_127 rfl rfl rfl rfl dX5_drop_209 (fun H_27 locsH_27 hRH_27 hzH_27 hSH_27 => ?_)
                    refine lv_iload hx hb dX5_drop_212 (lv_at hl 1 rfl) ?_
                    have ht : zth_drop σ k w = 0 := by unfold zth_drop; (repeat' split) <;> omega
                    exact W.iret hx hb hr (z_endM (post := zPost (zth_drop σ k w) (zan_drop (zup σ 0 0 0) k w) (zst_drop (zup σ 0 0 0) k w) (zup σ 0 0 (zth_drop σ k w))) (σ' := (zup (zup (zup (zup (zup (zup σ 0 0 0) 17 k (zClr (σ 17 k) w)) 18 k (σ 18 k)) 20 k (-1)) 19 k 0) 21 0 ((σ 21 0) + 0))) (v := some (.int (zI 0))) (zPost_ok (a := 0) ht (by unfold zan_drop; exact (if_neg (show ¬ zup σ 0 0 0 19 k = 2 by show ¬ σ 19 k = 2; omega)).symm) (by unfold zst_drop zan_drop; rw [if_neg (show ¬ zup σ 0 0 0 19 k = 2 by show ¬ σ 19 k = 2; omega), if_neg (show ¬ zup σ 0 0 0 19 k = 2 by show ¬ σ 19 k = 2; omega), eD]; try rfl)) hRH_27 (hzH_27.trans (hzH_25.trans (hzH_24.trans (hzH_23.trans (hzH_21.trans (hzH_18.trans (hzH_11.trans rfl))))))) hSH_27) hSH_27.2.2 dX5_drop_214
                  · refine lv_iload_n hx hb dX5_drop_150 rfl (lv_at hl 2 rfl) ?_
                    refine z_if_eq (tgt := 201) hx hb dX5_drop_151 (by decide) (by omega) (fun c_28 => ?_) (fun c_28 => ?_)
                    · refine lv_aload_n hx hb dX5_drop_201 rfl (lv_at hl 3 rfl) ?_
                      refine lv_dup hx hb dX5_drop_202 rfl ?_
                      refine m_get hx hb hts in_X5_drop hown hK hRH_25 21 (by decide) lk_X5_drop_127 rfl rfl dX5_drop_203 ?_
                      refine z_top (b := σ 21 0) (by rw [zup_t (t := 19) (t' := 21) (by decide), zup_t (t := 20) (t' := 21) (by decide), zup_t (t := 18) (t' := 21) (by decide), zup_t (t := 17) (t' := 21) (by decide), zup_t (t := 0) (t' := 21) (by decide)]) ?_
                      refine lv_iload hx hb dX5_drop_206 (lv_at hl 1 rfl) ?_
                      refine z_iadd hx hb dX5_drop_208 ?_
                      refine m_put hx hb hts in_X5_drop hown hK hRH_25 hM hSH_25 21 (by decide) rfl lk_X5_drop_127 rfl rfl rfl rfl dX5_drop_209 (fun H_29 locsH_29 hRH_29 hzH_29 hSH_29 => ?_)
                      refine lv_iload hx hb dX5_drop_212 (lv_at hl 1 rfl) ?_
                      have ht : zth_drop σ k w = 0 := by unfold zth_drop; (repeat' split) <;> omega
                      exact W.iret hx hb hr (z_endM (post := zPost (zth_drop σ k w) (zan_drop (zup σ 0 0 0) k w) (zst_drop (zup σ 0 0 0) k w) (zup σ 0 0 (zth_drop σ k w))) (σ' := (zup (zup (zup (zup (zup (zup σ 0 0 0) 17 k (zClr (σ 17 k) w)) 18 k (σ 18 k)) 20 k (-1)) 19 k 0) 21 0 ((σ 21 0) + 0))) (v := some (.int (zI 0))) (zPost_ok (a := 0) ht (by unfold zan_drop; exact (if_neg (show ¬ zup σ 0 0 0 19 k = 2 by show ¬ σ 19 k = 2; omega)).symm) (by unfold zst_drop zan_drop; rw [if_neg (show ¬ zup σ 0 0 0 19 k = 2 by show ¬ σ 19 k = 2; omega), if_neg (show ¬ zup σ 0 0 0 19 k = 2 by show ¬ σ 19 k = 2; omega), eD]; try rfl)) hRH_29 (hzH_29.trans (hzH_25.trans (hzH_24.trans (hzH_23.trans (hzH_21.trans (hzH_18.trans (hzH_11.trans rfl))))))) hSH_29) hSH_29.2.2 dX5_drop_214
                    · exact absurd c_28 (by decide)
                · refine z_iconst hx hb dX5_drop_110 ?_
                  refine lv_goto (tgt := 120) hx hb dX5_drop_111 (by decide) ?_
                  refine m_ast hx hb hK hRH_21 hM hSH_21 18 rfl (by show 0 ≤ k ∧ k < ((40 : Nat) : Int); omega) dX5_drop_120 (fun H_30 locsH_30 hRH_30 hzH_30 hSH_30 => ?_)
                  refine lv_aload_n hx hb dX5_drop_121 rfl (lv_at hl 1 rfl) ?_
                  refine m_get hx hb hts in_X5_drop hown hK hRH_30 20 (by decide) lk_X5_drop_56 rfl rfl dX5_drop_122 ?_
                  refine lv_iload_n hx hb dX5_drop_125 rfl (lv_at hl 2 rfl) ?_
                  refine z_iconst hx hb dX5_drop_126 ?_
                  refine m_ast hx hb hK hRH_30 hM hSH_30 20 rfl (by show 0 ≤ k ∧ k < ((40 : Nat) : Int); omega) dX5_drop_127 (fun H_31 locsH_31 hRH_31 hzH_31 hSH_31 => ?_)
                  refine lv_aload_n hx hb dX5_drop_128 rfl (lv_at hl 1 rfl) ?_
                  refine m_get hx hb hts in_X5_drop hown hK hRH_31 19 (by decide) lk_X5_drop_53 rfl rfl dX5_drop_129 ?_
                  refine lv_iload_n hx hb dX5_drop_132 rfl (lv_at hl 2 rfl) ?_
                  refine z_iconst hx hb dX5_drop_133 ?_
                  refine m_ast hx hb hK hRH_31 hM hSH_31 19 rfl (by show 0 ≤ k ∧ k < ((40 : Nat) : Int); omega) dX5_drop_134 (fun H_32 locsH_32 hRH_32 hzH_32 hSH_32 => ?_)
                  refine z_iconst hx hb dX5_drop_135 ?_
                  refine lv_istore (lv' := [(4, .int (zI 0)), (3, .int (zI 0)), (0, .ref b), (1, .int (zI k)), (2, .int (zI w))]) hx hb dX5_drop_136 hl (by decide) rfl (fun ls hl => ?_)
                  refine z_iconst hx hb dX5_drop_138 ?_
                  refine lv_istore (lv' := [(5, .int (zI 0)), (4, .int (zI 0)), (3, .int (zI 0)), (0, .ref b), (1, .int (zI k)), (2, .int (zI w))]) hx hb dX5_drop_139 hl (by decide) rfl (fun ls hl => ?_)
                  have eD : zdr (zup σ 0 0 0) k w = (zup (zup (zup (zup (zup σ 0 0 0) 17 k (zClr (σ 17 k) w)) 18 k (-1)) 20 k (-1)) 19 k 0) := by unfold zdr; rw [if_pos (show w = 2 by omega)]; rfl
                  refine lv_iload hx hb dX5_drop_141 (lv_at hl 0 rfl) ?_
                  refine lv_aload_n hx hb dX5_drop_143 rfl (lv_at hl 3 rfl) ?_
                  refine m_get hx hb hts in_X5_drop hown hK hRH_32 14 (by decide) lk_X5_drop_71 rfl rfl dX5_drop_144 ?_
                  refine z_top (b := σ 14 0) (by rw [zup_t (t := 19) (t' := 14) (by decide), zup_t (t := 20) (t' := 14) (by decide), zup_t (t := 18) (t' := 14) (by decide), zup_t (t := 17) (t' := 14) (by decide), zup_t (t := 0) (t' := 14) (by decide)]) ?_
                  refine z_icmp_ge (tgt := 201) hx hb dX5_drop_147 (by decide) (by omega) (fun c_33 => ?_) (fun c_33 => ?_)
                  · refine lv_aload_n hx hb dX5_drop_201 rfl (lv_at hl 3 rfl) ?_
                    refine lv_dup hx hb dX5_drop_202 rfl ?_
                    refine m_get hx hb hts in_X5_drop hown hK hRH_32 21 (by decide) lk_X5_drop_127 rfl rfl dX5_drop_203 ?_
                    refine z_top (b := σ 21 0) (by rw [zup_t (t := 19) (t' := 21) (by decide), zup_t (t := 20) (t' := 21) (by decide), zup_t (t := 18) (t' := 21) (by decide), zup_t (t := 17) (t' := 21) (by decide), zup_t (t := 0) (t' := 21) (by decide)]) ?_
                    refine lv_iload hx hb dX5_drop_206 (lv_at hl 1 rfl) ?_
                    refine z_iadd hx hb dX5_drop_208 ?_
                    refine m_put hx hb hts in_X5_drop hown hK hRH_32 hM hSH_32 21 (by decide) rfl lk_X5_drop_127 rfl rfl rfl rfl dX5_drop_209 (fun H_34 locsH_34 hRH_34 hzH_34 hSH_34 => ?_)
                    refine lv_iload hx hb dX5_drop_212 (lv_at hl 1 rfl) ?_
                    have ht : zth_drop σ k w = 0 := by unfold zth_drop; (repeat' split) <;> omega
                    exact W.iret hx hb hr (z_endM (post := zPost (zth_drop σ k w) (zan_drop (zup σ 0 0 0) k w) (zst_drop (zup σ 0 0 0) k w) (zup σ 0 0 (zth_drop σ k w))) (σ' := (zup (zup (zup (zup (zup (zup σ 0 0 0) 17 k (zClr (σ 17 k) w)) 18 k (-1)) 20 k (-1)) 19 k 0) 21 0 ((σ 21 0) + 0))) (v := some (.int (zI 0))) (zPost_ok (a := 0) ht (by unfold zan_drop; exact (if_neg (show ¬ zup σ 0 0 0 19 k = 2 by show ¬ σ 19 k = 2; omega)).symm) (by unfold zst_drop zan_drop; rw [if_neg (show ¬ zup σ 0 0 0 19 k = 2 by show ¬ σ 19 k = 2; omega), if_neg (show ¬ zup σ 0 0 0 19 k = 2 by show ¬ σ 19 k = 2; omega), eD]; try rfl)) hRH_34 (hzH_34.trans (hzH_32.trans (hzH_31.trans (hzH_30.trans (hzH_21.trans (hzH_18.trans (hzH_11.trans rfl))))))) hSH_34) hSH_34.2.2 dX5_drop_214
                  · refine lv_iload_n hx hb dX5_drop_150 rfl (lv_at hl 2 rfl) ?_
                    refine z_if_eq (tgt := 201) hx hb dX5_drop_151 (by decide) (by omega) (fun c_35 => ?_) (fun c_35 => ?_)
                    · refine lv_aload_n hx hb dX5_drop_201 rfl (lv_at hl 3 rfl) ?_
                      refine lv_dup hx hb dX5_drop_202 rfl ?_
                      refine m_get hx hb hts in_X5_drop hown hK hRH_32 21 (by decide) lk_X5_drop_127 rfl rfl dX5_drop_203 ?_
                      refine z_top (b := σ 21 0) (by rw [zup_t (t := 19) (t' := 21) (by decide), zup_t (t := 20) (t' := 21) (by decide), zup_t (t := 18) (t' := 21) (by decide), zup_t (t := 17) (t' := 21) (by decide), zup_t (t := 0) (t' := 21) (by decide)]) ?_
                      refine lv_iload hx hb dX5_drop_206 (lv_at hl 1 rfl) ?_
                      refine z_iadd hx hb dX5_drop_208 ?_
                      refine m_put hx hb hts in_X5_drop hown hK hRH_32 hM hSH_32 21 (by decide) rfl lk_X5_drop_127 rfl rfl rfl rfl dX5_drop_209 (fun H_36 locsH_36 hRH_36 hzH_36 hSH_36 => ?_)
                      refine lv_iload hx hb dX5_drop_212 (lv_at hl 1 rfl) ?_
                      have ht : zth_drop σ k w = 0 := by unfold zth_drop; (repeat' split) <;> omega
                      exact W.iret hx hb hr (z_endM (post := zPost (zth_drop σ k w) (zan_drop (zup σ 0 0 0) k w) (zst_drop (zup σ 0 0 0) k w) (zup σ 0 0 (zth_drop σ k w))) (σ' := (zup (zup (zup (zup (zup (zup σ 0 0 0) 17 k (zClr (σ 17 k) w)) 18 k (-1)) 20 k (-1)) 19 k 0) 21 0 ((σ 21 0) + 0))) (v := some (.int (zI 0))) (zPost_ok (a := 0) ht (by unfold zan_drop; exact (if_neg (show ¬ zup σ 0 0 0 19 k = 2 by show ¬ σ 19 k = 2; omega)).symm) (by unfold zst_drop zan_drop; rw [if_neg (show ¬ zup σ 0 0 0 19 k = 2 by show ¬ σ 19 k = 2; omega), if_neg (show ¬ zup σ 0 0 0 19 k = 2 by show ¬ σ 19 k = 2; omega), eD]; try rfl)) hRH_36 (hzH_36.trans (hzH_32.trans (hzH_31.trans (hzH_30.trans (hzH_21.trans (hzH_18.trans (hzH_11.trans rfl))))))) hSH_36) hSH_36.2.2 dX5_drop_214
                    · exact absurd c_35 (by decide)
              · refine z_iconst hx hb dX5_drop_80 ?_
                refine lv_goto (tgt := 85) hx hb dX5_drop_81 (by decide) ?_
                refine lv_istore_n (lv' := [(3, .int (zI 1)), (0, .ref b), (1, .int (zI k)), (2, .int (zI w))]) hx hb dX5_drop_85 rfl hl (by decide) rfl (fun ls hl => ?_)
                refine lv_aload_n hx hb dX5_drop_86 rfl (lv_at hl 1 rfl) ?_
                refine m_get hx hb hts in_X5_drop hown hK hRH_18 17 (by decide) lk_X5_drop_47 rfl rfl dX5_drop_87 ?_
                refine lv_iload_n hx hb dX5_drop_90 rfl (lv_at hl 2 rfl) ?_
                refine lv_dup2_11 hx hb dX5_drop_91 rfl rfl ?_
                refine m_ald hx hb hK hRH_18 17 rfl (by show 0 ≤ k ∧ k < ((40 : Nat) : Int); omega) dX5_drop_92 ?_
                refine z_top (b := σ 17 k) (by rw [zup_t (t := 0) (t' := 17) (by decide)]) ?_
                refine z_iconst hx hb dX5_drop_93 ?_
                refine lv_iload_n hx hb dX5_drop_94 rfl (lv_at hl 3 rfl) ?_
                refine z_ishl hx hb dX5_drop_95 (by omega) ?_
                refine z_iconst hx hb dX5_drop_96 ?_
                refine z_inot hx hb dX5_drop_97 (by omega) ?_
                refine z_iclr hx hb dX5_drop_98 (by omega) ?_
                refine m_ast hx hb hK hRH_18 hM hSH_18 17 rfl (by show 0 ≤ k ∧ k < ((40 : Nat) : Int); omega) dX5_drop_99 (fun H_37 locsH_37 hRH_37 hzH_37 hSH_37 => ?_)
                refine lv_aload_n hx hb dX5_drop_100 rfl (lv_at hl 1 rfl) ?_
                refine m_get hx hb hts in_X5_drop hown hK hRH_37 18 (by decide) lk_X5_drop_50 rfl rfl dX5_drop_101 ?_
                refine lv_iload_n hx hb dX5_drop_104 rfl (lv_at hl 2 rfl) ?_
                refine lv_iload_n hx hb dX5_drop_105 rfl (lv_at hl 3 rfl) ?_
                refine z_iconst hx hb dX5_drop_106 ?_
                refine z_icmp_ne (tgt := 114) hx hb dX5_drop_107 (by decide) (by omega) (fun c_38 => ?_) (fun c_38 => ?_)
                · refine lv_aload_n hx hb dX5_drop_114 rfl (lv_at hl 1 rfl) ?_
                  refine m_get hx hb hts in_X5_drop hown hK hRH_37 18 (by decide) lk_X5_drop_50 rfl rfl dX5_drop_115 ?_
                  refine lv_iload_n hx hb dX5_drop_118 rfl (lv_at hl 2 rfl) ?_
                  refine m_ald hx hb hK hRH_37 18 rfl (by show 0 ≤ k ∧ k < ((40 : Nat) : Int); omega) dX5_drop_119 ?_
                  refine z_top (b := σ 18 k) (by rw [zup_t (t := 17) (t' := 18) (by decide), zup_t (t := 0) (t' := 18) (by decide)]) ?_
                  refine m_ast hx hb hK hRH_37 hM hSH_37 18 rfl (by show 0 ≤ k ∧ k < ((40 : Nat) : Int); omega) dX5_drop_120 (fun H_39 locsH_39 hRH_39 hzH_39 hSH_39 => ?_)
                  refine lv_aload_n hx hb dX5_drop_121 rfl (lv_at hl 1 rfl) ?_
                  refine m_get hx hb hts in_X5_drop hown hK hRH_39 20 (by decide) lk_X5_drop_56 rfl rfl dX5_drop_122 ?_
                  refine lv_iload_n hx hb dX5_drop_125 rfl (lv_at hl 2 rfl) ?_
                  refine z_iconst hx hb dX5_drop_126 ?_
                  refine m_ast hx hb hK hRH_39 hM hSH_39 20 rfl (by show 0 ≤ k ∧ k < ((40 : Nat) : Int); omega) dX5_drop_127 (fun H_40 locsH_40 hRH_40 hzH_40 hSH_40 => ?_)
                  refine lv_aload_n hx hb dX5_drop_128 rfl (lv_at hl 1 rfl) ?_
                  refine m_get hx hb hts in_X5_drop hown hK hRH_40 19 (by decide) lk_X5_drop_53 rfl rfl dX5_drop_129 ?_
                  refine lv_iload_n hx hb dX5_drop_132 rfl (lv_at hl 2 rfl) ?_
                  refine z_iconst hx hb dX5_drop_133 ?_
                  refine m_ast hx hb hK hRH_40 hM hSH_40 19 rfl (by show 0 ≤ k ∧ k < ((40 : Nat) : Int); omega) dX5_drop_134 (fun H_41 locsH_41 hRH_41 hzH_41 hSH_41 => ?_)
                  refine z_iconst hx hb dX5_drop_135 ?_
                  refine lv_istore (lv' := [(4, .int (zI 0)), (3, .int (zI 1)), (0, .ref b), (1, .int (zI k)), (2, .int (zI w))]) hx hb dX5_drop_136 hl (by decide) rfl (fun ls hl => ?_)
                  refine z_iconst hx hb dX5_drop_138 ?_
                  refine lv_istore (lv' := [(5, .int (zI 0)), (4, .int (zI 0)), (3, .int (zI 1)), (0, .ref b), (1, .int (zI k)), (2, .int (zI w))]) hx hb dX5_drop_139 hl (by decide) rfl (fun ls hl => ?_)
                  have eD : zdr (zup σ 0 0 0) k w = (zup (zup (zup (zup (zup σ 0 0 0) 17 k (zClr (σ 17 k) w)) 18 k (σ 18 k)) 20 k (-1)) 19 k 0) := by unfold zdr; rw [if_neg (show ¬ w = 2 by omega)]; rfl
                  refine z_cap (fun WW wi wo => ?_)
                  have hL : ∀ (n : Nat) (v i : Int) (ls : Array Slot) (HL : Heap) (locsL : List Loc), v = (zDrops (zdr (zup σ 0 0 0) k w) i.toNat).2 → 0 ≤ i ∧ i ≤ σ 14 0 → RM D cI b ma (zDrops (zdr (zup σ 0 0 0) k w) i.toNat).1 HL → HL.size = s.heap.size → va_S (AM b ma) s.heap HL locsL → (σ 14 0 - i).toNat < n → lv_has ls 6 [(3, .int (zI 1)), (0, .ref b), (1, .int (zI k)), (2, .int (zI w)), (4, .int (zI v)), (5, .int (zI i))] → WW HL locsL 0 0 (F0 m 141 ls []) := by
                    intro n
                    induction n with
                    | zero => intro v i ls HL locsL hv hi hRL hzL hSL hm; exact absurd hm (Nat.not_lt_zero _)
                    | succ n ih =>
                      intro v i ls HL locsL hv hi hRL hzL hSL hm hl
                      refine wi _ _ _ _ _ ?_
                      have hID : zInv (zDrops (zdr (zup σ 0 0 0) k w) i.toNat).1 := zInv_drops (zInv_dr (zInv_th hI 0) (by show 0 ≤ k ∧ k < σ 14 0; omega) (by omega)) _ (by show ((i.toNat : Nat) : Int) ≤ σ 14 0; omega)
                      refine lv_iload hx hb dX5_drop_141 (lv_at hl 5 rfl) ?_
                      refine lv_aload_n hx hb dX5_drop_143 rfl (lv_at hl 1 rfl) ?_
                      refine m_get hx hb hts in_X5_drop hown hK hRL 14 (by decide) lk_X5_drop_71 rfl rfl dX5_drop_144 ?_
                      refine z_top (b := σ 14 0) (by rw [zDrops_o (by decide) (by decide), zdr_14, zup_t (t := 0) (t' := 14) (by decide)]) ?_
                      refine z_icmp_ge (tgt := 201) hx hb dX5_drop_147 (by decide) (by omega) (fun c_42 => ?_) (fun c_42 => ?_)
                      · refine lv_aload_n hx hb dX5_drop_201 rfl (lv_at hl 1 rfl) ?_
                        refine lv_dup hx hb dX5_drop_202 rfl ?_
                        refine m_get hx hb hts in_X5_drop hown hK hRL 21 (by decide) lk_X5_drop_127 rfl rfl dX5_drop_203 ?_
                        refine z_top (b := σ 21 0) (by rw [zDrops_o (by decide) (by decide), zdr_21, zup_t (t := 0) (t' := 21) (by decide)]) ?_
                        refine lv_iload hx hb dX5_drop_206 (lv_at hl 4 rfl) ?_
                        refine z_iadd hx hb dX5_drop_208 ?_
                        refine m_put hx hb hts in_X5_drop hown hK hRL hM hSL 21 (by decide) rfl lk_X5_drop_127 rfl rfl rfl rfl dX5_drop_209 (fun H_43 locsH_43 hRH_43 hzH_43 hSH_43 => ?_)
                        refine lv_iload hx hb dX5_drop_212 (lv_at hl 4 rfl) ?_
                        have ht : zth_drop σ k w = 0 := by unfold zth_drop; (repeat' split) <;> omega
                        exact W.iret hx hb hr (z_endM (post := zPost (zth_drop σ k w) (zan_drop (zup σ 0 0 0) k w) (zst_drop (zup σ 0 0 0) k w) (zup σ 0 0 (zth_drop σ k w))) (σ' := (zup (zDrops (zdr (zup σ 0 0 0) k w) i.toNat).1 21 0 ((σ 21 0) + v))) (v := some (.int (zI v))) (zPost_ok (a := v) ht (by unfold zan_drop; rw [if_pos (show zup σ 0 0 0 19 k = 2 by show σ 19 k = 2; omega), show ((zup σ 0 0 0) 14 0).toNat = i.toNat by show (σ 14 0).toNat = i.toNat; rw [show i = σ 14 0 by omega], ← hv]) (by unfold zst_drop zan_drop; rw [if_pos (show zup σ 0 0 0 19 k = 2 by show σ 19 k = 2; omega), if_pos (show zup σ 0 0 0 19 k = 2 by show σ 19 k = 2; omega), show ((zup σ 0 0 0) 14 0).toNat = i.toNat by show (σ 14 0).toNat = i.toNat; rw [show i = σ 14 0 by omega], ← hv]; try rfl)) hRH_43 (hzH_43.trans hzL) hSH_43) hSH_43.2.2 dX5_drop_214
                      · have fi := hID.c (i := i) (by rw [zDrops_o (by decide) (by decide)]; show 0 ≤ i ∧ i < σ 14 0; omega)
                        refine lv_iload_n hx hb dX5_drop_150 rfl (lv_at hl 0 rfl) ?_
                        refine z_if_eq (tgt := 201) hx hb dX5_drop_151 (by decide) (by omega) (fun c_44 => ?_) (fun c_44 => ?_)
                        · exact absurd c_44 (by decide)
                        · refine lv_aload_n hx hb dX5_drop_154 rfl (lv_at hl 1 rfl) ?_
                          refine m_get hx hb hts in_X5_drop hown hK hRL 19 (by decide) lk_X5_drop_53 rfl rfl dX5_drop_155 ?_
                          refine lv_iload hx hb dX5_drop_158 (lv_at hl 5 rfl) ?_
                          refine m_ald hx hb hK hRL 19 rfl (by show 0 ≤ i ∧ i < ((40 : Nat) : Int); omega) dX5_drop_160 ?_
                          refine z_iconst hx hb dX5_drop_161 ?_
                          refine z_icmp_eq (tgt := 176) hx hb dX5_drop_162 (by decide) (by omega) (fun c_45 => ?_) (fun c_45 => ?_)
                          · refine lv_iload hx hb dX5_drop_176 (lv_at hl 4 rfl) ?_
                            refine lv_aload_n hx hb dX5_drop_178 rfl (lv_at hl 1 rfl) ?_
                            refine lv_iload hx hb dX5_drop_179 (lv_at hl 5 rfl) ?_
                            refine z_wm (As := [.int (zI i)]) (rest := [.int (zI v)]) ⟨hx, hb, hml, hown, hts⟩ (c_X5_looksAnew l D cI cO cL b ma hM (zDrops (zdr (zup σ 0 0 0) k w) i.toNat).1 HL hRL i hID (by rw [zDrops_o (by decide) (by decide)]; show 0 ≤ i ∧ i < σ 14 0; omega)) (cwV 1 hts gX5_drop_X5_looksAnew rfl rfl rfl (by decide +kernel) ⟨Nat.le_of_ble_eq_true rfl, Nat.le_of_ble_eq_true rfl⟩) hK hSL (m_recv hK hRL) rfl hl.1 rfl (Nat.le_of_ble_eq_true rfl) dX5_drop_181 ⟨Nat.zero_le _, Nat.zero_le _⟩ (fun rH_46 σH_46 H_46 locsH_46 hpH_46 hRH_46 hzH_46 hSH_46 => ?_)
                            obtain ⟨rfl, rfl⟩ := hpH_46
                            refine z_ifb_eq (tgt := 191) hx hb dX5_drop_184 (by decide) (fun c_47 => ?_) (fun c_47 => ?_)
                            · refine z_iconst hx hb dX5_drop_191 ?_
                              refine z_iadd hx hb dX5_drop_192 ?_
                              refine lv_istore (lv' := [(4, .int (zI (v + 0))), (3, .int (zI 1)), (0, .ref b), (1, .int (zI k)), (2, .int (zI w)), (5, .int (zI i))]) hx hb dX5_drop_193 hl (by decide) rfl (fun ls hl => ?_)
                              refine z_iinc (lv' := [(5, .int (zI (i + 1))), (4, .int (zI (v + 0))), (3, .int (zI 1)), (0, .ref b), (1, .int (zI k)), (2, .int (zI w))]) hx hb dX5_drop_195 hl (k := 5) rfl (by decide) rfl (fun ls hl => ?_)
                              refine lv_goto (tgt := 141) hx hb dX5_drop_198 (by decide) ?_
                              exact wo _ _ _ _ _ (ih (v + 0) (i + 1) ls _ _ (by rw [zDrops_i _ hi.1, if_pos (by omega)]; show v + 0 = (zDrops _ i.toNat).2 + _; rw [if_pos (Classical.not_not.mp (by assumption)), ← hv]) (by omega) (by rw [zDrops_i _ hi.1, if_pos (by omega)]; exact hRH_46) (hzH_46.trans hzL) hSH_46 (by omega) (lv_sub hl [2, 3, 4, 5, 1, 0] rfl))
                            · refine z_iconst hx hb dX5_drop_187 ?_
                              refine lv_goto (tgt := 192) hx hb dX5_drop_188 (by decide) ?_
                              refine z_iadd hx hb dX5_drop_192 ?_
                              refine lv_istore (lv' := [(4, .int (zI (v + 1))), (3, .int (zI 1)), (0, .ref b), (1, .int (zI k)), (2, .int (zI w)), (5, .int (zI i))]) hx hb dX5_drop_193 hl (by decide) rfl (fun ls hl => ?_)
                              refine z_iinc (lv' := [(5, .int (zI (i + 1))), (4, .int (zI (v + 1))), (3, .int (zI 1)), (0, .ref b), (1, .int (zI k)), (2, .int (zI w))]) hx hb dX5_drop_195 hl (k := 5) rfl (by decide) rfl (fun ls hl => ?_)
                              refine lv_goto (tgt := 141) hx hb dX5_drop_198 (by decide) ?_
                              exact wo _ _ _ _ _ (ih (v + 1) (i + 1) ls _ _ (by rw [zDrops_i _ hi.1, if_pos (by omega)]; show v + 1 = (zDrops _ i.toNat).2 + _; rw [if_neg (by assumption), ← hv]) (by omega) (by rw [zDrops_i _ hi.1, if_pos (by omega)]; exact hRH_46) (hzH_46.trans hzL) hSH_46 (by omega) (lv_sub hl [2, 3, 4, 5, 1, 0] rfl))
                          · refine lv_aload_n hx hb dX5_drop_165 rfl (lv_at hl 1 rfl) ?_
                            refine m_get hx hb hts in_X5_drop hown hK hRL 19 (by decide) lk_X5_drop_53 rfl rfl dX5_drop_166 ?_
                            refine lv_iload hx hb dX5_drop_169 (lv_at hl 5 rfl) ?_
                            refine m_ald hx hb hK hRL 19 rfl (by show 0 ≤ i ∧ i < ((40 : Nat) : Int); omega) dX5_drop_171 ?_
                            refine z_iconst hx hb dX5_drop_172 ?_
                            refine z_icmp_ne (tgt := 195) hx hb dX5_drop_173 (by decide) (by omega) (fun c_48 => ?_) (fun c_48 => ?_)
                            · refine z_iinc (lv' := [(5, .int (zI (i + 1))), (3, .int (zI 1)), (0, .ref b), (1, .int (zI k)), (2, .int (zI w)), (4, .int (zI v))]) hx hb dX5_drop_195 hl (k := 5) rfl (by decide) rfl (fun ls hl => ?_)
                              refine lv_goto (tgt := 141) hx hb dX5_drop_198 (by decide) ?_
                              exact wo _ _ _ _ _ (ih v (i + 1) ls _ _ (by rw [zDrops_i _ hi.1, if_neg (by omega)]; exact hv) (by omega) (by rw [zDrops_i _ hi.1, if_neg (by omega)]; exact hRL) hzL hSL (by omega) (lv_sub hl [1, 2, 3, 4, 5, 0] rfl))
                            · refine lv_iload hx hb dX5_drop_176 (lv_at hl 4 rfl) ?_
                              refine lv_aload_n hx hb dX5_drop_178 rfl (lv_at hl 1 rfl) ?_
                              refine lv_iload hx hb dX5_drop_179 (lv_at hl 5 rfl) ?_
                              refine z_wm (As := [.int (zI i)]) (rest := [.int (zI v)]) ⟨hx, hb, hml, hown, hts⟩ (c_X5_looksAnew l D cI cO cL b ma hM (zDrops (zdr (zup σ 0 0 0) k w) i.toNat).1 HL hRL i hID (by rw [zDrops_o (by decide) (by decide)]; show 0 ≤ i ∧ i < σ 14 0; omega)) (cwV 1 hts gX5_drop_X5_looksAnew rfl rfl rfl (by decide +kernel) ⟨Nat.le_of_ble_eq_true rfl, Nat.le_of_ble_eq_true rfl⟩) hK hSL (m_recv hK hRL) rfl hl.1 rfl (Nat.le_of_ble_eq_true rfl) dX5_drop_181 ⟨Nat.zero_le _, Nat.zero_le _⟩ (fun rH_49 σH_49 H_49 locsH_49 hpH_49 hRH_49 hzH_49 hSH_49 => ?_)
                              obtain ⟨rfl, rfl⟩ := hpH_49
                              refine z_ifb_eq (tgt := 191) hx hb dX5_drop_184 (by decide) (fun c_50 => ?_) (fun c_50 => ?_)
                              · refine z_iconst hx hb dX5_drop_191 ?_
                                refine z_iadd hx hb dX5_drop_192 ?_
                                refine lv_istore (lv' := [(4, .int (zI (v + 0))), (3, .int (zI 1)), (0, .ref b), (1, .int (zI k)), (2, .int (zI w)), (5, .int (zI i))]) hx hb dX5_drop_193 hl (by decide) rfl (fun ls hl => ?_)
                                refine z_iinc (lv' := [(5, .int (zI (i + 1))), (4, .int (zI (v + 0))), (3, .int (zI 1)), (0, .ref b), (1, .int (zI k)), (2, .int (zI w))]) hx hb dX5_drop_195 hl (k := 5) rfl (by decide) rfl (fun ls hl => ?_)
                                refine lv_goto (tgt := 141) hx hb dX5_drop_198 (by decide) ?_
                                exact wo _ _ _ _ _ (ih (v + 0) (i + 1) ls _ _ (by rw [zDrops_i _ hi.1, if_pos (by omega)]; show v + 0 = (zDrops _ i.toNat).2 + _; rw [if_pos (Classical.not_not.mp (by assumption)), ← hv]) (by omega) (by rw [zDrops_i _ hi.1, if_pos (by omega)]; exact hRH_49) (hzH_49.trans hzL) hSH_49 (by omega) (lv_sub hl [2, 3, 4, 5, 1, 0] rfl))
                              · refine z_iconst hx hb dX5_drop_187 ?_
                                refine lv_goto (tgt := 192) hx hb dX5_drop_188 (by decide) ?_
                                refine z_iadd hx hb dX5_drop_192 ?_
                                refine lv_istore (lv' := [(4, .int (zI (v + 1))), (3, .int (zI 1)), (0, .ref b), (1, .int (zI k)), (2, .int (zI w)), (5, .int (zI i))]) hx hb dX5_drop_193 hl (by decide) rfl (fun ls hl => ?_)
                                refine z_iinc (lv' := [(5, .int (zI (i + 1))), (4, .int (zI (v + 1))), (3, .int (zI 1)), (0, .ref b), (1, .int (zI k)), (2, .int (zI w))]) hx hb dX5_drop_195 hl (k := 5) rfl (by decide) rfl (fun ls hl => ?_)
                                refine lv_goto (tgt := 141) hx hb dX5_drop_198 (by decide) ?_
                                exact wo _ _ _ _ _ (ih (v + 1) (i + 1) ls _ _ (by rw [zDrops_i _ hi.1, if_pos (by omega)]; show v + 1 = (zDrops _ i.toNat).2 + _; rw [if_neg (by assumption), ← hv]) (by omega) (by rw [zDrops_i _ hi.1, if_pos (by omega)]; exact hRH_49) (hzH_49.trans hzL) hSH_49 (by omega) (lv_sub hl [2, 3, 4, 5, 1, 0] rfl))
                  exact wo _ _ _ _ _ (hL _ 0 0 ls _ _ (by rfl) (by omega) (by show RM D cI b ma (zdr (zup σ 0 0 0) k w) _; rw [eD]; exact hRH_41) (hzH_41.trans (hzH_40.trans (hzH_39.trans (hzH_37.trans (hzH_18.trans (hzH_11.trans rfl)))))) hSH_41 (Nat.lt_succ_self _) (lv_sub hl [2, 3, 4, 5, 1, 0] rfl))
                · refine z_iconst hx hb dX5_drop_110 ?_
                  refine lv_goto (tgt := 120) hx hb dX5_drop_111 (by decide) ?_
                  refine m_ast hx hb hK hRH_37 hM hSH_37 18 rfl (by show 0 ≤ k ∧ k < ((40 : Nat) : Int); omega) dX5_drop_120 (fun H_51 locsH_51 hRH_51 hzH_51 hSH_51 => ?_)
                  refine lv_aload_n hx hb dX5_drop_121 rfl (lv_at hl 1 rfl) ?_
                  refine m_get hx hb hts in_X5_drop hown hK hRH_51 20 (by decide) lk_X5_drop_56 rfl rfl dX5_drop_122 ?_
                  refine lv_iload_n hx hb dX5_drop_125 rfl (lv_at hl 2 rfl) ?_
                  refine z_iconst hx hb dX5_drop_126 ?_
                  refine m_ast hx hb hK hRH_51 hM hSH_51 20 rfl (by show 0 ≤ k ∧ k < ((40 : Nat) : Int); omega) dX5_drop_127 (fun H_52 locsH_52 hRH_52 hzH_52 hSH_52 => ?_)
                  refine lv_aload_n hx hb dX5_drop_128 rfl (lv_at hl 1 rfl) ?_
                  refine m_get hx hb hts in_X5_drop hown hK hRH_52 19 (by decide) lk_X5_drop_53 rfl rfl dX5_drop_129 ?_
                  refine lv_iload_n hx hb dX5_drop_132 rfl (lv_at hl 2 rfl) ?_
                  refine z_iconst hx hb dX5_drop_133 ?_
                  refine m_ast hx hb hK hRH_52 hM hSH_52 19 rfl (by show 0 ≤ k ∧ k < ((40 : Nat) : Int); omega) dX5_drop_134 (fun H_53 locsH_53 hRH_53 hzH_53 hSH_53 => ?_)
                  refine z_iconst hx hb dX5_drop_135 ?_
                  refine lv_istore (lv' := [(4, .int (zI 0)), (3, .int (zI 1)), (0, .ref b), (1, .int (zI k)), (2, .int (zI w))]) hx hb dX5_drop_136 hl (by decide) rfl (fun ls hl => ?_)
                  refine z_iconst hx hb dX5_drop_138 ?_
                  refine lv_istore (lv' := [(5, .int (zI 0)), (4, .int (zI 0)), (3, .int (zI 1)), (0, .ref b), (1, .int (zI k)), (2, .int (zI w))]) hx hb dX5_drop_139 hl (by decide) rfl (fun ls hl => ?_)
                  have eD : zdr (zup σ 0 0 0) k w = (zup (zup (zup (zup (zup σ 0 0 0) 17 k (zClr (σ 17 k) w)) 18 k (-1)) 20 k (-1)) 19 k 0) := by unfold zdr; rw [if_pos (show w = 2 by omega)]; rfl
                  refine z_cap (fun WW wi wo => ?_)
                  have hL : ∀ (n : Nat) (v i : Int) (ls : Array Slot) (HL : Heap) (locsL : List Loc), v = (zDrops (zdr (zup σ 0 0 0) k w) i.toNat).2 → 0 ≤ i ∧ i ≤ σ 14 0 → RM D cI b ma (zDrops (zdr (zup σ 0 0 0) k w) i.toNat).1 HL → HL.size = s.heap.size → va_S (AM b ma) s.heap HL locsL → (σ 14 0 - i).toNat < n → lv_has ls 6 [(3, .int (zI 1)), (0, .ref b), (1, .int (zI k)), (2, .int (zI w)), (4, .int (zI v)), (5, .int (zI i))] → WW HL locsL 0 0 (F0 m 141 ls []) := by
                    intro n
                    induction n with
                    | zero => intro v i ls HL locsL hv hi hRL hzL hSL hm; exact absurd hm (Nat.not_lt_zero _)
                    | succ n ih =>
                      intro v i ls HL locsL hv hi hRL hzL hSL hm hl
                      refine wi _ _ _ _ _ ?_
                      have hID : zInv (zDrops (zdr (zup σ 0 0 0) k w) i.toNat).1 := zInv_drops (zInv_dr (zInv_th hI 0) (by show 0 ≤ k ∧ k < σ 14 0; omega) (by omega)) _ (by show ((i.toNat : Nat) : Int) ≤ σ 14 0; omega)
                      refine lv_iload hx hb dX5_drop_141 (lv_at hl 5 rfl) ?_
                      refine lv_aload_n hx hb dX5_drop_143 rfl (lv_at hl 1 rfl) ?_
                      refine m_get hx hb hts in_X5_drop hown hK hRL 14 (by decide) lk_X5_drop_71 rfl rfl dX5_drop_144 ?_
                      refine z_top (b := σ 14 0) (by rw [zDrops_o (by decide) (by decide), zdr_14, zup_t (t := 0) (t' := 14) (by decide)]) ?_
                      refine z_icmp_ge (tgt := 201) hx hb dX5_drop_147 (by decide) (by omega) (fun c_54 => ?_) (fun c_54 => ?_)
                      · refine lv_aload_n hx hb dX5_drop_201 rfl (lv_at hl 1 rfl) ?_
                        refine lv_dup hx hb dX5_drop_202 rfl ?_
                        refine m_get hx hb hts in_X5_drop hown hK hRL 21 (by decide) lk_X5_drop_127 rfl rfl dX5_drop_203 ?_
                        refine z_top (b := σ 21 0) (by rw [zDrops_o (by decide) (by decide), zdr_21, zup_t (t := 0) (t' := 21) (by decide)]) ?_
                        refine lv_iload hx hb dX5_drop_206 (lv_at hl 4 rfl) ?_
                        refine z_iadd hx hb dX5_drop_208 ?_
                        refine m_put hx hb hts in_X5_drop hown hK hRL hM hSL 21 (by decide) rfl lk_X5_drop_127 rfl rfl rfl rfl dX5_drop_209 (fun H_55 locsH_55 hRH_55 hzH_55 hSH_55 => ?_)
                        refine lv_iload hx hb dX5_drop_212 (lv_at hl 4 rfl) ?_
                        have ht : zth_drop σ k w = 0 := by unfold zth_drop; (repeat' split) <;> omega
                        exact W.iret hx hb hr (z_endM (post := zPost (zth_drop σ k w) (zan_drop (zup σ 0 0 0) k w) (zst_drop (zup σ 0 0 0) k w) (zup σ 0 0 (zth_drop σ k w))) (σ' := (zup (zDrops (zdr (zup σ 0 0 0) k w) i.toNat).1 21 0 ((σ 21 0) + v))) (v := some (.int (zI v))) (zPost_ok (a := v) ht (by unfold zan_drop; rw [if_pos (show zup σ 0 0 0 19 k = 2 by show σ 19 k = 2; omega), show ((zup σ 0 0 0) 14 0).toNat = i.toNat by show (σ 14 0).toNat = i.toNat; rw [show i = σ 14 0 by omega], ← hv]) (by unfold zst_drop zan_drop; rw [if_pos (show zup σ 0 0 0 19 k = 2 by show σ 19 k = 2; omega), if_pos (show zup σ 0 0 0 19 k = 2 by show σ 19 k = 2; omega), show ((zup σ 0 0 0) 14 0).toNat = i.toNat by show (σ 14 0).toNat = i.toNat; rw [show i = σ 14 0 by omega], ← hv]; try rfl)) hRH_55 (hzH_55.trans hzL) hSH_55) hSH_55.2.2 dX5_drop_214
                      · have fi := hID.c (i := i) (by rw [zDrops_o (by decide) (by decide)]; show 0 ≤ i ∧ i < σ 14 0; omega)
                        refine lv_iload_n hx hb dX5_drop_150 rfl (lv_at hl 0 rfl) ?_
                        refine z_if_eq (tgt := 201) hx hb dX5_drop_151 (by decide) (by omega) (fun c_56 => ?_) (fun c_56 => ?_)
                        · exact absurd c_56 (by decide)
                        · refine lv_aload_n hx hb dX5_drop_154 rfl (lv_at hl 1 rfl) ?_
                          refine m_get hx hb hts in_X5_drop hown hK hRL 19 (by decide) lk_X5_drop_53 rfl rfl dX5_drop_155 ?_
                          refine lv_iload hx hb dX5_drop_158 (lv_at hl 5 rfl) ?_
                          refine m_ald hx hb hK hRL 19 rfl (by show 0 ≤ i ∧ i < ((40 : Nat) : Int); omega) dX5_drop_160 ?_
                          refine z_iconst hx hb dX5_drop_161 ?_
                          refine z_icmp_eq (tgt := 176) hx hb dX5_drop_162 (by decide) (by omega) (fun c_57 => ?_) (fun c_57 => ?_)
                          · refine lv_iload hx hb dX5_drop_176 (lv_at hl 4 rfl) ?_
                            refine lv_aload_n hx hb dX5_drop_178 rfl (lv_at hl 1 rfl) ?_
                            refine lv_iload hx hb dX5_drop_179 (lv_at hl 5 rfl) ?_
                            refine z_wm (As := [.int (zI i)]) (rest := [.int (zI v)]) ⟨hx, hb, hml, hown, hts⟩ (c_X5_looksAnew l D cI cO cL b ma hM (zDrops (zdr (zup σ 0 0 0) k w) i.toNat).1 HL hRL i hID (by rw [zDrops_o (by decide) (by decide)]; show 0 ≤ i ∧ i < σ 14 0; omega)) (cwV 1 hts gX5_drop_X5_looksAnew rfl rfl rfl (by decide +kernel) ⟨Nat.le_of_ble_eq_true rfl, Nat.le_of_ble_eq_true rfl⟩) hK hSL (m_recv hK hRL) rfl hl.1 rfl (Nat.le_of_ble_eq_true rfl) dX5_drop_181 ⟨Nat.zero_le _, Nat.zero_le _⟩ (fun rH_58 σH_58 H_58 locsH_58 hpH_58 hRH_58 hzH_58 hSH_58 => ?_)
                            obtain ⟨rfl, rfl⟩ := hpH_58
                            refine z_ifb_eq (tgt := 191) hx hb dX5_drop_184 (by decide) (fun c_59 => ?_) (fun c_59 => ?_)
                            · refine z_iconst hx hb dX5_drop_191 ?_
                              refine z_iadd hx hb dX5_drop_192 ?_
                              refine lv_istore (lv' := [(4, .int (zI (v + 0))), (3, .int (zI 1)), (0, .ref b), (1, .int (zI k)), (2, .int (zI w)), (5, .int (zI i))]) hx hb dX5_drop_193 hl (by decide) rfl (fun ls hl => ?_)
                              refine z_iinc (lv' := [(5, .int (zI (i + 1))), (4, .int (zI (v + 0))), (3, .int (zI 1)), (0, .ref b), (1, .int (zI k)), (2, .int (zI w))]) hx hb dX5_drop_195 hl (k := 5) rfl (by decide) rfl (fun ls hl => ?_)
                              refine lv_goto (tgt := 141) hx hb dX5_drop_198 (by decide) ?_
                              exact wo _ _ _ _ _ (ih (v + 0) (i + 1) ls _ _ (by rw [zDrops_i _ hi.1, if_pos (by omega)]; show v + 0 = (zDrops _ i.toNat).2 + _; rw [if_pos (Classical.not_not.mp (by assumption)), ← hv]) (by omega) (by rw [zDrops_i _ hi.1, if_pos (by omega)]; exact hRH_58) (hzH_58.trans hzL) hSH_58 (by omega) (lv_sub hl [2, 3, 4, 5, 1, 0] rfl))
                            · refine z_iconst hx hb dX5_drop_187 ?_
                              refine lv_goto (tgt := 192) hx hb dX5_drop_188 (by decide) ?_
                              refine z_iadd hx hb dX5_drop_192 ?_
                              refine lv_istore (lv' := [(4, .int (zI (v + 1))), (3, .int (zI 1)), (0, .ref b), (1, .int (zI k)), (2, .int (zI w)), (5, .int (zI i))]) hx hb dX5_drop_193 hl (by decide) rfl (fun ls hl => ?_)
                              refine z_iinc (lv' := [(5, .int (zI (i + 1))), (4, .int (zI (v + 1))), (3, .int (zI 1)), (0, .ref b), (1, .int (zI k)), (2, .int (zI w))]) hx hb dX5_drop_195 hl (k := 5) rfl (by decide) rfl (fun ls hl => ?_)
                              refine lv_goto (tgt := 141) hx hb dX5_drop_198 (by decide) ?_
                              exact wo _ _ _ _ _ (ih (v + 1) (i + 1) ls _ _ (by rw [zDrops_i _ hi.1, if_pos (by omega)]; show v + 1 = (zDrops _ i.toNat).2 + _; rw [if_neg (by assumption), ← hv]) (by omega) (by rw [zDrops_i _ hi.1, if_pos (by omega)]; exact hRH_58) (hzH_58.trans hzL) hSH_58 (by omega) (lv_sub hl [2, 3, 4, 5, 1, 0] rfl))
                          · refine lv_aload_n hx hb dX5_drop_165 rfl (lv_at hl 1 rfl) ?_
                            refine m_get hx hb hts in_X5_drop hown hK hRL 19 (by decide) lk_X5_drop_53 rfl rfl dX5_drop_166 ?_
                            refine lv_iload hx hb dX5_drop_169 (lv_at hl 5 rfl) ?_
                            refine m_ald hx hb hK hRL 19 rfl (by show 0 ≤ i ∧ i < ((40 : Nat) : Int); omega) dX5_drop_171 ?_
                            refine z_iconst hx hb dX5_drop_172 ?_
                            refine z_icmp_ne (tgt := 195) hx hb dX5_drop_173 (by decide) (by omega) (fun c_60 => ?_) (fun c_60 => ?_)
                            · refine z_iinc (lv' := [(5, .int (zI (i + 1))), (3, .int (zI 1)), (0, .ref b), (1, .int (zI k)), (2, .int (zI w)), (4, .int (zI v))]) hx hb dX5_drop_195 hl (k := 5) rfl (by decide) rfl (fun ls hl => ?_)
                              refine lv_goto (tgt := 141) hx hb dX5_drop_198 (by decide) ?_
                              exact wo _ _ _ _ _ (ih v (i + 1) ls _ _ (by rw [zDrops_i _ hi.1, if_neg (by omega)]; exact hv) (by omega) (by rw [zDrops_i _ hi.1, if_neg (by omega)]; exact hRL) hzL hSL (by omega) (lv_sub hl [1, 2, 3, 4, 5, 0] rfl))
                            · refine lv_iload hx hb dX5_drop_176 (lv_at hl 4 rfl) ?_
                              refine lv_aload_n hx hb dX5_drop_178 rfl (lv_at hl 1 rfl) ?_
                              refine lv_iload hx hb dX5_drop_179 (lv_at hl 5 rfl) ?_
                              refine z_wm (As := [.int (zI i)]) (rest := [.int (zI v)]) ⟨hx, hb, hml, hown, hts⟩ (c_X5_looksAnew l D cI cO cL b ma hM (zDrops (zdr (zup σ 0 0 0) k w) i.toNat).1 HL hRL i hID (by rw [zDrops_o (by decide) (by decide)]; show 0 ≤ i ∧ i < σ 14 0; omega)) (cwV 1 hts gX5_drop_X5_looksAnew rfl rfl rfl (by decide +kernel) ⟨Nat.le_of_ble_eq_true rfl, Nat.le_of_ble_eq_true rfl⟩) hK hSL (m_recv hK hRL) rfl hl.1 rfl (Nat.le_of_ble_eq_true rfl) dX5_drop_181 ⟨Nat.zero_le _, Nat.zero_le _⟩ (fun rH_61 σH_61 H_61 locsH_61 hpH_61 hRH_61 hzH_61 hSH_61 => ?_)
                              obtain ⟨rfl, rfl⟩ := hpH_61
                              refine z_ifb_eq (tgt := 191) hx hb dX5_drop_184 (by decide) (fun c_62 => ?_) (fun c_62 => ?_)
                              · refine z_iconst hx hb dX5_drop_191 ?_
                                refine z_iadd hx hb dX5_drop_192 ?_
                                refine lv_istore (lv' := [(4, .int (zI (v + 0))), (3, .int (zI 1)), (0, .ref b), (1, .int (zI k)), (2, .int (zI w)), (5, .int (zI i))]) hx hb dX5_drop_193 hl (by decide) rfl (fun ls hl => ?_)
                                refine z_iinc (lv' := [(5, .int (zI (i + 1))), (4, .int (zI (v + 0))), (3, .int (zI 1)), (0, .ref b), (1, .int (zI k)), (2, .int (zI w))]) hx hb dX5_drop_195 hl (k := 5) rfl (by decide) rfl (fun ls hl => ?_)
                                refine lv_goto (tgt := 141) hx hb dX5_drop_198 (by decide) ?_
                                exact wo _ _ _ _ _ (ih (v + 0) (i + 1) ls _ _ (by rw [zDrops_i _ hi.1, if_pos (by omega)]; show v + 0 = (zDrops _ i.toNat).2 + _; rw [if_pos (Classical.not_not.mp (by assumption)), ← hv]) (by omega) (by rw [zDrops_i _ hi.1, if_pos (by omega)]; exact hRH_61) (hzH_61.trans hzL) hSH_61 (by omega) (lv_sub hl [2, 3, 4, 5, 1, 0] rfl))
                              · refine z_iconst hx hb dX5_drop_187 ?_
                                refine lv_goto (tgt := 192) hx hb dX5_drop_188 (by decide) ?_
                                refine z_iadd hx hb dX5_drop_192 ?_
                                refine lv_istore (lv' := [(4, .int (zI (v + 1))), (3, .int (zI 1)), (0, .ref b), (1, .int (zI k)), (2, .int (zI w)), (5, .int (zI i))]) hx hb dX5_drop_193 hl (by decide) rfl (fun ls hl => ?_)
                                refine z_iinc (lv' := [(5, .int (zI (i + 1))), (4, .int (zI (v + 1))), (3, .int (zI 1)), (0, .ref b), (1, .int (zI k)), (2, .int (zI w))]) hx hb dX5_drop_195 hl (k := 5) rfl (by decide) rfl (fun ls hl => ?_)
                                refine lv_goto (tgt := 141) hx hb dX5_drop_198 (by decide) ?_
                                exact wo _ _ _ _ _ (ih (v + 1) (i + 1) ls _ _ (by rw [zDrops_i _ hi.1, if_pos (by omega)]; show v + 1 = (zDrops _ i.toNat).2 + _; rw [if_neg (by assumption), ← hv]) (by omega) (by rw [zDrops_i _ hi.1, if_pos (by omega)]; exact hRH_61) (hzH_61.trans hzL) hSH_61 (by omega) (lv_sub hl [2, 3, 4, 5, 1, 0] rfl))
                  exact wo _ _ _ _ _ (hL _ 0 0 ls _ _ (by rfl) (by omega) (by show RM D cI b ma (zdr (zup σ 0 0 0) k w) _; rw [eD]; exact hRH_53) (hzH_53.trans (hzH_52.trans (hzH_51.trans (hzH_37.trans (hzH_18.trans (hzH_11.trans rfl)))))) hSH_53 (Nat.lt_succ_self _) (lv_sub hl [2, 3, 4, 5, 1, 0] rfl))
            · exact absurd c_19 (by decide)
          · refine z_iconst hx hb dX5_drop_53 ?_
            refine lv_goto (tgt := 58) hx hb dX5_drop_54 (by decide) ?_
            refine m_put hx hb hts in_X5_drop hown hK hRH_11 hM hSH_11 0 (by decide) rfl lk_X5_drop_59 rfl rfl rfl rfl dX5_drop_58 (fun H_63 locsH_63 hRH_63 hzH_63 hSH_63 => ?_)
            rw [zup_2] at hRH_63
            refine lv_aload_n hx hb dX5_drop_61 rfl (lv_at hl 0 rfl) ?_
            refine m_get hx hb hts in_X5_drop hown hK hRH_63 0 (by decide) lk_X5_drop_59 rfl rfl dX5_drop_62 ?_
            refine z_top (b := 2) (by rw [zup_s]) ?_
            refine z_if_le (tgt := 70) hx hb dX5_drop_65 (by decide) (by omega) (fun c_64 => ?_) (fun c_64 => ?_)
            · exact absurd c_64 (by decide)
            · refine z_iconst hx hb dX5_drop_68 ?_
              have ht : zth_drop σ k w = 2 := by unfold zth_drop; (repeat' split) <;> omega
              exact W.iret hx hb hr (z_endM (post := zPost (zth_drop σ k w) (zan_drop (zup σ 0 0 0) k w) (zst_drop (zup σ 0 0 0) k w) (zup σ 0 0 (zth_drop σ k w))) (σ' := (zup σ 0 0 2)) (v := some (.int (zI 0))) (zPost_no (a := 0) ht (by decide)) hRH_63 (hzH_63.trans (hzH_11.trans rfl)) hSH_63) hSH_63.2.2 dX5_drop_69

theorem lk_X5_passesOne_92 : Cond.fieldLink RX5 92 "HarbourPilotlineModel" "now" "I" ∈ wsX5_passesOne := by decide +kernel
theorem lk_X5_passesOne_71 : Cond.fieldLink RX5 71 "HarbourPilotlineModel" "conferences" "I" ∈ wsX5_passesOne := by decide +kernel
theorem lk_X5_passesOne_53 : Cond.fieldLink RX5 53 "HarbourPilotlineModel" "state" "[I" ∈ wsX5_passesOne := by decide +kernel
theorem lk_X5_passesOne_32 : Cond.fieldLink RX5 32 "HarbourPilotlineModel" "owes" "[I" ∈ wsX5_passesOne := by decide +kernel
theorem lk_X5_passesOne_41 : Cond.fieldLink RX5 41 "HarbourPilotlineModel" "ship" "[I" ∈ wsX5_passesOne := by decide +kernel
theorem lk_X5_passesOne_56 : Cond.fieldLink RX5 56 "HarbourPilotlineModel" "slot" "[I" ∈ wsX5_passesOne := by decide +kernel
theorem in_X5_passesOne : ∀ w ∈ wsX50, w ∈ wsX5_passesOne := by decide +kernel
set_option maxRecDepth 100000 in
set_option maxHeartbeats 4000000 in
theorem c_X5_passesOne (l : Launch) (D : va_G) (cI cO cL : ClassId) (b : Nat) (ma : Nat → Nat) (hM : MA b ma) (σ : zT) (H0 : Heap) (hR : RM D cI b ma σ H0)  (hI : zInv σ) (hJ : zInv2 σ) (ht : σ 1 0 < 20000) : zWM l yX5_passesOne wsX5_passesOne ({ frames := 1, cells := 0, slots := 0, locals := 21 }) D cI cO cL b ma [.ref b] H0 ((fun rv σ' => rv = some (.int (zI (zSum (fun c => zNewV σ (σ 1 0 + 1) c True 1) (σ 14 0).toNat))) ∧ σ' = zAdv σ (σ 14 0) (σ 1 0 + 1))) := by
  refine Met.ofW (cc := cX5_passesOne) (maxL := 3) (ret := (some .int)) (by decide) rfl ?_
  intro p e s m args below meth c s₁ B hml hv
  obtain ⟨rfl, hH, hK⟩ := hv
  subst hH
  have hx := B.exec
  have hb := B.bytes
  have hr := B.returns
  have hts := atoms_spec (ws := wsX5_passesOne) B.pre
  have hown : s.vm.findClass RX5 = some m.cls := findClass_of_methodNamed B.named
  have hlocks := B.notSynchronized
  have hl := lv_entry ([.ref b]) (n := 3) (Nat.le_of_ble_eq_true rfl)
  rw [lg_entry_eq]
  generalize (lg_sl ([.ref b]) ++ List.replicate (3 - (lg_sl ([.ref b])).length) Slot.unset).toArray = ls at hl ⊢
  have hl : lv_has ls 3 [(0, .ref b)] := hl
  have f0 := hI.r
  refine lv_aload_n hx hb dX5_passesOne_0 rfl (lv_at hl 0 rfl) ?_
  refine lv_dup hx hb dX5_passesOne_1 rfl ?_
  refine m_get hx hb hts in_X5_passesOne hown hK hR 1 (by decide) lk_X5_passesOne_92 rfl rfl dX5_passesOne_2 ?_
  refine z_iconst hx hb dX5_passesOne_5 ?_
  refine z_iadd hx hb dX5_passesOne_6 ?_
  refine m_put hx hb hts in_X5_passesOne hown hK hR hM va_S.rf 1 (by decide) rfl lk_X5_passesOne_92 rfl rfl rfl rfl dX5_passesOne_7 (fun H_1 locsH_1 hRH_1 hzH_1 hSH_1 => ?_)
  refine z_iconst hx hb dX5_passesOne_10 ?_
  refine lv_istore_n (lv' := [(1, .int (zI 0)), (0, .ref b)]) hx hb dX5_passesOne_11 rfl hl (by decide) rfl (fun ls hl => ?_)
  refine z_iconst hx hb dX5_passesOne_12 ?_
  refine lv_istore_n (lv' := [(2, .int (zI 0)), (1, .int (zI 0)), (0, .ref b)]) hx hb dX5_passesOne_13 rfl hl (by decide) rfl (fun ls hl => ?_)
  refine z_cap (fun WW wi wo => ?_)
  have hL : ∀ (n : Nat) (v i : Int) (ls : Array Slot) (HL : Heap) (locsL : List Loc), v = zSum (fun c => zNewV σ (σ 1 0 + 1) c True 1) i.toNat → 0 ≤ i ∧ i ≤ σ 14 0 → RM D cI b ma (zAdv σ i (σ 1 0 + 1)) HL → HL.size = s.heap.size → va_S (AM b ma) s.heap HL locsL → (σ 14 0 - i).toNat < n → lv_has ls 3 [(0, .ref b), (1, .int (zI v)), (2, .int (zI i))] → WW HL locsL 0 0 (F0 m 14 ls []) := by
    intro n
    induction n with
    | zero => intro v i ls HL locsL hv hi hRL hzL hSL hm; exact absurd hm (Nat.not_lt_zero _)
    | succ n ih =>
      intro v i ls HL locsL hv hi hRL hzL hSL hm hl
      refine wi _ _ _ _ _ ?_
      refine lv_iload_n hx hb dX5_passesOne_14 rfl (lv_at hl 2 rfl) ?_
      refine lv_aload_n hx hb dX5_passesOne_15 rfl (lv_at hl 0 rfl) ?_
      refine m_get hx hb hts in_X5_passesOne hown hK hRL 14 (by decide) lk_X5_passesOne_71 rfl rfl dX5_passesOne_16 ?_
      refine z_top (b := σ 14 0) (by rw [zAdv_o (by decide)]) ?_
      refine z_icmp_ge (tgt := 109) hx hb dX5_passesOne_19 (by decide) (by omega) (fun c_2 => ?_) (fun c_2 => ?_)
      · refine lv_iload_n hx hb dX5_passesOne_109 rfl (lv_at hl 1 rfl) ?_
        exact W.iret hx hb hr  (z_endM (post := (fun rv σ' => rv = some (.int (zI (zSum (fun c => zNewV σ (σ 1 0 + 1) c True 1) (σ 14 0).toNat))) ∧ σ' = zAdv σ (σ 14 0) (σ 1 0 + 1))) (σ' := (zAdv σ i (σ 1 0 + 1))) (v := (some (.int (zI v)))) ⟨by rw [hv, show i = σ 14 0 by omega], by rw [show i = σ 14 0 by omega]⟩ hRL hzL hSL) hSL.2.2 dX5_passesOne_110
      · have fi := hI.c (i := i) (by omega)
        have gi := hI.s (i := σ 15 i) (by omega)
        have ji := hJ.c (i := i) (by omega)
        refine lv_aload_n hx hb dX5_passesOne_22 rfl (lv_at hl 0 rfl) ?_
        refine m_get hx hb hts in_X5_passesOne hown hK hRL 19 (by decide) lk_X5_passesOne_53 rfl rfl dX5_passesOne_23 ?_
        refine lv_iload_n hx hb dX5_passesOne_26 rfl (lv_at hl 2 rfl) ?_
        refine m_ald hx hb hK hRL 19 rfl (by show 0 ≤ i ∧ i < ((40 : Nat) : Int); omega) dX5_passesOne_27 ?_
        refine z_top (b := σ 19 i) (by rw [zAdv_19, zSt_out (Int.le_refl i)]) ?_
        refine z_iconst hx hb dX5_passesOne_28 ?_
        refine z_icmp_ne (tgt := 52) hx hb dX5_passesOne_29 (by decide) (by omega) (fun c_3 => ?_) (fun c_3 => ?_)
        · refine lv_aload_n hx hb dX5_passesOne_52 rfl (lv_at hl 0 rfl) ?_
          refine m_get hx hb hts in_X5_passesOne hown hK hRL 19 (by decide) lk_X5_passesOne_53 rfl rfl dX5_passesOne_53 ?_
          refine lv_iload_n hx hb dX5_passesOne_56 rfl (lv_at hl 2 rfl) ?_
          refine m_ald hx hb hK hRL 19 rfl (by show 0 ≤ i ∧ i < ((40 : Nat) : Int); omega) dX5_passesOne_57 ?_
          refine z_top (b := σ 19 i) (by rw [zAdv_19, zSt_out (Int.le_refl i)]) ?_
          refine z_iconst hx hb dX5_passesOne_58 ?_
          refine z_icmp_ne (tgt := 103) hx hb dX5_passesOne_59 (by decide) (by omega) (fun c_4 => ?_) (fun c_4 => ?_)
          · refine z_iinc (lv' := [(2, .int (zI (i + 1))), (0, .ref b), (1, .int (zI v))]) hx hb dX5_passesOne_103 hl (k := 2) rfl (by decide) rfl (fun ls hl => ?_)
            refine lv_goto (tgt := 14) hx hb dX5_passesOne_106 (by decide) ?_
            have hA_5 : RM D cI b ma (zAdv σ (i + 1) (σ 1 0 + 1)) HL := by
              refine RM_adv hRL (fun k j e1 e2 => rfl) (fun j => ?_) (fun j => ?_)
              · by_cases e : j = i
                · rw [e, zAdv_19, zSt_out (Int.le_refl i), zSt_i hi.1]; first | (exfalso; omega) | (rw [if_neg (by omega)]) | (rw [if_pos (by omega), if_neg (by omega)]; first | (rw [if_pos (by omega)]; omega) | (rw [if_neg (by omega)]; omega))
                · rw [zAdv_19]; exact (zSt_o (by omega)).symm
              · rw [zAdv_10i _ hi.1]; first | (exfalso; omega) | (rw [zNewV_f (by omega)]; omega)
            exact wo _ _ _ _ _ (ih v (i + 1) ls _ _ (by rw [zSum_i _ hi.1, ← hv]; first | (exfalso; omega) | (rw [zNewV_f (by omega)]; omega)) (by omega) (by exact hA_5) hzL hSL (by omega) (lv_sub hl [1, 2, 0] rfl))
          · refine lv_aload_n hx hb dX5_passesOne_62 rfl (lv_at hl 0 rfl) ?_
            refine lv_iload_n hx hb dX5_passesOne_63 rfl (lv_at hl 2 rfl) ?_
            refine z_cv (As := [.int (zI i)]) (rest := []) ⟨hx, hb, hml, hown, hts⟩ (c_X5_over l D cI cO cL b ma (zAdv σ i (σ 1 0 + 1)) HL hRL i (by show 0 ≤ i ∧ i < 40; omega) (by show 0 ≤ σ 15 i ∧ σ 15 i < 12; omega)) (cwV 1 hts gX5_passesOne_X5_over rfl rfl rfl (by decide +kernel) ⟨Nat.le_of_ble_eq_true rfl, Nat.le_of_ble_eq_true rfl⟩) (zKK_mv D cI cO cL) (fun U _ hv => va_K.moved hv hK) (m_recv hK hRL) rfl hl.1 rfl (Nat.le_of_ble_eq_true rfl) dX5_passesOne_64 ⟨Nat.zero_le _, Nat.zero_le _⟩ (fun r_6 hr_6 => ?_)
            rw [hr_6]
            refine z_top (a := (zAdv σ i (σ 1 0 + 1)) 20 i + (zAdv σ i (σ 1 0 + 1)) 8 ((zAdv σ i (σ 1 0 + 1)) 15 i)) (b := σ 20 i + σ 8 (σ 15 i)) rfl ?_
            refine lv_aload_n hx hb dX5_passesOne_67 rfl (lv_at hl 0 rfl) ?_
            refine m_get hx hb hts in_X5_passesOne hown hK hRL 1 (by decide) lk_X5_passesOne_92 rfl rfl dX5_passesOne_68 ?_
            refine z_top (b := (σ 1 0 + 1)) (by rw [show zAdv σ i (σ 1 0 + 1) 1 0 = σ 1 0 + 1 from rfl]) ?_
            refine z_icmp_ne (tgt := 103) hx hb dX5_passesOne_71 (by decide) (by omega) (fun c_7 => ?_) (fun c_7 => ?_)
            · refine z_iinc (lv' := [(2, .int (zI (i + 1))), (0, .ref b), (1, .int (zI v))]) hx hb dX5_passesOne_103 hl (k := 2) rfl (by decide) rfl (fun ls hl => ?_)
              refine lv_goto (tgt := 14) hx hb dX5_passesOne_106 (by decide) ?_
              have hA_8 : RM D cI b ma (zAdv σ (i + 1) (σ 1 0 + 1)) HL := by
                refine RM_adv hRL (fun k j e1 e2 => rfl) (fun j => ?_) (fun j => ?_)
                · by_cases e : j = i
                  · rw [e, zAdv_19, zSt_out (Int.le_refl i), zSt_i hi.1]; first | (exfalso; omega) | (rw [if_neg (by omega)]) | (rw [if_pos (by omega), if_neg (by omega)]; first | (rw [if_pos (by omega)]; omega) | (rw [if_neg (by omega)]; omega))
                  · rw [zAdv_19]; exact (zSt_o (by omega)).symm
                · rw [zAdv_10i _ hi.1]; first | (exfalso; omega) | (rw [zNewV_f (by omega)]; omega)
              exact wo _ _ _ _ _ (ih v (i + 1) ls _ _ (by rw [zSum_i _ hi.1, ← hv]; first | (exfalso; omega) | (rw [zNewV_f (by omega)]; omega)) (by omega) (by exact hA_8) hzL hSL (by omega) (lv_sub hl [1, 2, 0] rfl))
            · have jp := hJ.p (i := i) (by omega) (by omega)
              refine lv_aload_n hx hb dX5_passesOne_74 rfl (lv_at hl 0 rfl) ?_
              refine m_get hx hb hts in_X5_passesOne hown hK hRL 19 (by decide) lk_X5_passesOne_53 rfl rfl dX5_passesOne_75 ?_
              refine lv_iload_n hx hb dX5_passesOne_78 rfl (lv_at hl 2 rfl) ?_
              refine z_iconst hx hb dX5_passesOne_79 ?_
              refine m_ast hx hb hK hRL hM hSL 19 rfl (by show 0 ≤ i ∧ i < ((40 : Nat) : Int); omega) dX5_passesOne_80 (fun H_9 locsH_9 hRH_9 hzH_9 hSH_9 => ?_)
              refine lv_aload_n hx hb dX5_passesOne_81 rfl (lv_at hl 0 rfl) ?_
              refine m_get hx hb hts in_X5_passesOne hown hK hRH_9 10 (by decide) lk_X5_passesOne_32 rfl rfl dX5_passesOne_82 ?_
              refine lv_aload_n hx hb dX5_passesOne_85 rfl (lv_at hl 0 rfl) ?_
              refine m_get hx hb hts in_X5_passesOne hown hK hRH_9 15 (by decide) lk_X5_passesOne_41 rfl rfl dX5_passesOne_86 ?_
              refine lv_iload_n hx hb dX5_passesOne_89 rfl (lv_at hl 2 rfl) ?_
              refine m_ald hx hb hK hRH_9 15 rfl (by show 0 ≤ i ∧ i < ((40 : Nat) : Int); omega) dX5_passesOne_90 ?_
              refine z_top (b := σ 15 i) (by rw [zup_t (t := 19) (t' := 15) (by decide), zAdv_o (by decide)]) ?_
              refine lv_dup2_11 hx hb dX5_passesOne_91 rfl rfl ?_
              refine m_ald hx hb hK hRH_9 10 rfl (by show 0 ≤ (σ 15 i) ∧ (σ 15 i) < ((12 : Nat) : Int); omega) dX5_passesOne_92 ?_
              refine z_top (b := (zAdv σ i (σ 1 0 + 1)) 10 (σ 15 i)) (by rw [zup_t (t := 19) (t' := 10) (by decide)]) ?_
              refine lv_aload_n hx hb dX5_passesOne_93 rfl (lv_at hl 0 rfl) ?_
              refine lv_iload_n hx hb dX5_passesOne_94 rfl (lv_at hl 2 rfl) ?_
              refine z_cv (As := [.int (zI i)]) (rest := [.int (zI ((zAdv σ i (σ 1 0 + 1)) 10 (σ 15 i))), .int (zI (σ 15 i)), .ref (ma 10)]) ⟨hx, hb, hml, hown, hts⟩ (c_X5_billOf l D cI cO cL b ma (zup (zAdv σ i (σ 1 0 + 1)) 19 i 4) H_9 hRH_9 i (by show 0 ≤ i ∧ i < 40; omega) (by show 0 ≤ σ 15 i ∧ σ 15 i < 12; omega) (by show 0 ≤ σ 18 i ∧ σ 18 i < 8; omega)) (cwV 1 hts gX5_passesOne_X5_billOf rfl rfl rfl (by decide +kernel) ⟨Nat.le_of_ble_eq_true rfl, Nat.le_of_ble_eq_true rfl⟩) (zKK_mv D cI cO cL) (fun U _ hv => va_K.moved hv hK) (m_recv hK hRH_9) rfl hl.1 rfl (Nat.le_of_ble_eq_true rfl) dX5_passesOne_95 ⟨Nat.zero_le _, Nat.zero_le _⟩ (fun r_10 hr_10 => ?_)
              rw [hr_10]
              refine z_top (a := (zup (zAdv σ i (σ 1 0 + 1)) 19 i 4) 8 ((zup (zAdv σ i (σ 1 0 + 1)) 19 i 4) 15 i) * (zup (zAdv σ i (σ 1 0 + 1)) 19 i 4) 13 ((zup (zAdv σ i (σ 1 0 + 1)) 19 i 4) 18 i) + 100 * (zup (zAdv σ i (σ 1 0 + 1)) 19 i 4) 9 ((zup (zAdv σ i (σ 1 0 + 1)) 19 i 4) 15 i)) (b := σ 8 (σ 15 i) * σ 13 (σ 18 i) + 100 * σ 9 (σ 15 i)) rfl ?_
              refine z_iadd hx hb dX5_passesOne_98 ?_
              refine m_ast hx hb hK hRH_9 hM hSH_9 10 rfl (by show 0 ≤ (σ 15 i) ∧ (σ 15 i) < ((12 : Nat) : Int); omega) dX5_passesOne_99 (fun H_11 locsH_11 hRH_11 hzH_11 hSH_11 => ?_)
              refine z_iinc (lv' := [(1, .int (zI (v + 1))), (0, .ref b), (2, .int (zI i))]) hx hb dX5_passesOne_100 hl (k := 1) rfl (by decide) rfl (fun ls hl => ?_)
              refine z_iinc (lv' := [(2, .int (zI (i + 1))), (1, .int (zI (v + 1))), (0, .ref b)]) hx hb dX5_passesOne_103 hl (k := 2) rfl (by decide) rfl (fun ls hl => ?_)
              refine lv_goto (tgt := 14) hx hb dX5_passesOne_106 (by decide) ?_
              have hA_12 : RM D cI b ma (zAdv σ (i + 1) (σ 1 0 + 1)) H_11 := by
                refine RM_adv hRH_11 (fun k j e1 e2 => by simp only [zup_t e1, zup_t e2]) (fun j => ?_) (fun j => ?_)
                · rw [zup_t (t := 10) (t' := 19) (by decide)]
                  by_cases e : j = i
                  · rw [e, zup_s, zSt_i hi.1]; first | (exfalso; omega) | (rw [if_pos (by omega)]; first | (rw [if_pos (by omega)]) | (rw [if_neg (by omega), if_pos (by omega)]))
                  · rw [zup_i e, zAdv_19]; exact (zSt_o (by omega)).symm
                · rw [zAdv_10i _ hi.1]
                  by_cases e : j = σ 15 i
                  · rw [e, zup_s, zNewV_t (by first | omega | (exfalso; omega)) rfl]; rfl
                  · rw [zup_i e, zup_t (t := 19) (t' := 10) (by decide), zNewV_p (fun q => e q.symm)]; omega
              exact wo _ _ _ _ _ (ih (v + 1) (i + 1) ls _ _ (by rw [zSum_i _ hi.1, ← hv]; first | (exfalso; omega) | rw [zNewV_t (by omega) trivial]) (by omega) (by exact hA_12) (hzH_11.trans (hzH_9.trans hzL)) hSH_11 (by omega) (lv_sub hl [2, 1, 0] rfl))
        · refine lv_aload_n hx hb dX5_passesOne_32 rfl (lv_at hl 0 rfl) ?_
          refine m_get hx hb hts in_X5_passesOne hown hK hRL 20 (by decide) lk_X5_passesOne_56 rfl rfl dX5_passesOne_33 ?_
          refine lv_iload_n hx hb dX5_passesOne_36 rfl (lv_at hl 2 rfl) ?_
          refine m_ald hx hb hK hRL 20 rfl (by show 0 ≤ i ∧ i < ((40 : Nat) : Int); omega) dX5_passesOne_37 ?_
          refine z_top (b := σ 20 i) (by rw [zAdv_o (by decide)]) ?_
          refine lv_aload_n hx hb dX5_passesOne_38 rfl (lv_at hl 0 rfl) ?_
          refine m_get hx hb hts in_X5_passesOne hown hK hRL 1 (by decide) lk_X5_passesOne_92 rfl rfl dX5_passesOne_39 ?_
          refine z_top (b := (σ 1 0 + 1)) (by rw [show zAdv σ i (σ 1 0 + 1) 1 0 = σ 1 0 + 1 from rfl]) ?_
          refine z_icmp_ne (tgt := 52) hx hb dX5_passesOne_42 (by decide) (by omega) (fun c_13 => ?_) (fun c_13 => ?_)
          · refine lv_aload_n hx hb dX5_passesOne_52 rfl (lv_at hl 0 rfl) ?_
            refine m_get hx hb hts in_X5_passesOne hown hK hRL 19 (by decide) lk_X5_passesOne_53 rfl rfl dX5_passesOne_53 ?_
            refine lv_iload_n hx hb dX5_passesOne_56 rfl (lv_at hl 2 rfl) ?_
            refine m_ald hx hb hK hRL 19 rfl (by show 0 ≤ i ∧ i < ((40 : Nat) : Int); omega) dX5_passesOne_57 ?_
            refine z_top (b := σ 19 i) (by rw [zAdv_19, zSt_out (Int.le_refl i)]) ?_
            refine z_iconst hx hb dX5_passesOne_58 ?_
            refine z_icmp_ne (tgt := 103) hx hb dX5_passesOne_59 (by decide) (by omega) (fun c_14 => ?_) (fun c_14 => ?_)
            · refine z_iinc (lv' := [(2, .int (zI (i + 1))), (0, .ref b), (1, .int (zI v))]) hx hb dX5_passesOne_103 hl (k := 2) rfl (by decide) rfl (fun ls hl => ?_)
              refine lv_goto (tgt := 14) hx hb dX5_passesOne_106 (by decide) ?_
              have hA_15 : RM D cI b ma (zAdv σ (i + 1) (σ 1 0 + 1)) HL := by
                refine RM_adv hRL (fun k j e1 e2 => rfl) (fun j => ?_) (fun j => ?_)
                · by_cases e : j = i
                  · rw [e, zAdv_19, zSt_out (Int.le_refl i), zSt_i hi.1]; first | (exfalso; omega) | (rw [if_neg (by omega)]) | (rw [if_pos (by omega), if_neg (by omega)]; first | (rw [if_pos (by omega)]; omega) | (rw [if_neg (by omega)]; omega))
                  · rw [zAdv_19]; exact (zSt_o (by omega)).symm
                · rw [zAdv_10i _ hi.1]; first | (exfalso; omega) | (rw [zNewV_f (by omega)]; omega)
              exact wo _ _ _ _ _ (ih v (i + 1) ls _ _ (by rw [zSum_i _ hi.1, ← hv]; first | (exfalso; omega) | (rw [zNewV_f (by omega)]; omega)) (by omega) (by exact hA_15) hzL hSL (by omega) (lv_sub hl [1, 2, 0] rfl))
            · refine lv_aload_n hx hb dX5_passesOne_62 rfl (lv_at hl 0 rfl) ?_
              refine lv_iload_n hx hb dX5_passesOne_63 rfl (lv_at hl 2 rfl) ?_
              refine z_cv (As := [.int (zI i)]) (rest := []) ⟨hx, hb, hml, hown, hts⟩ (c_X5_over l D cI cO cL b ma (zAdv σ i (σ 1 0 + 1)) HL hRL i (by show 0 ≤ i ∧ i < 40; omega) (by show 0 ≤ σ 15 i ∧ σ 15 i < 12; omega)) (cwV 1 hts gX5_passesOne_X5_over rfl rfl rfl (by decide +kernel) ⟨Nat.le_of_ble_eq_true rfl, Nat.le_of_ble_eq_true rfl⟩) (zKK_mv D cI cO cL) (fun U _ hv => va_K.moved hv hK) (m_recv hK hRL) rfl hl.1 rfl (Nat.le_of_ble_eq_true rfl) dX5_passesOne_64 ⟨Nat.zero_le _, Nat.zero_le _⟩ (fun r_16 hr_16 => ?_)
              rw [hr_16]
              refine z_top (a := (zAdv σ i (σ 1 0 + 1)) 20 i + (zAdv σ i (σ 1 0 + 1)) 8 ((zAdv σ i (σ 1 0 + 1)) 15 i)) (b := σ 20 i + σ 8 (σ 15 i)) rfl ?_
              refine lv_aload_n hx hb dX5_passesOne_67 rfl (lv_at hl 0 rfl) ?_
              refine m_get hx hb hts in_X5_passesOne hown hK hRL 1 (by decide) lk_X5_passesOne_92 rfl rfl dX5_passesOne_68 ?_
              refine z_top (b := (σ 1 0 + 1)) (by rw [show zAdv σ i (σ 1 0 + 1) 1 0 = σ 1 0 + 1 from rfl]) ?_
              refine z_icmp_ne (tgt := 103) hx hb dX5_passesOne_71 (by decide) (by omega) (fun c_17 => ?_) (fun c_17 => ?_)
              · refine z_iinc (lv' := [(2, .int (zI (i + 1))), (0, .ref b), (1, .int (zI v))]) hx hb dX5_passesOne_103 hl (k := 2) rfl (by decide) rfl (fun ls hl => ?_)
                refine lv_goto (tgt := 14) hx hb dX5_passesOne_106 (by decide) ?_
                have hA_18 : RM D cI b ma (zAdv σ (i + 1) (σ 1 0 + 1)) HL := by
                  refine RM_adv hRL (fun k j e1 e2 => rfl) (fun j => ?_) (fun j => ?_)
                  · by_cases e : j = i
                    · rw [e, zAdv_19, zSt_out (Int.le_refl i), zSt_i hi.1]; first | (exfalso; omega) | (rw [if_neg (by omega)]) | (rw [if_pos (by omega), if_neg (by omega)]; first | (rw [if_pos (by omega)]; omega) | (rw [if_neg (by omega)]; omega))
                    · rw [zAdv_19]; exact (zSt_o (by omega)).symm
                  · rw [zAdv_10i _ hi.1]; first | (exfalso; omega) | (rw [zNewV_f (by omega)]; omega)
                exact wo _ _ _ _ _ (ih v (i + 1) ls _ _ (by rw [zSum_i _ hi.1, ← hv]; first | (exfalso; omega) | (rw [zNewV_f (by omega)]; omega)) (by omega) (by exact hA_18) hzL hSL (by omega) (lv_sub hl [1, 2, 0] rfl))
              · have jp := hJ.p (i := i) (by omega) (by omega)
                refine lv_aload_n hx hb dX5_passesOne_74 rfl (lv_at hl 0 rfl) ?_
                refine m_get hx hb hts in_X5_passesOne hown hK hRL 19 (by decide) lk_X5_passesOne_53 rfl rfl dX5_passesOne_75 ?_
                refine lv_iload_n hx hb dX5_passesOne_78 rfl (lv_at hl 2 rfl) ?_
                refine z_iconst hx hb dX5_passesOne_79 ?_
                refine m_ast hx hb hK hRL hM hSL 19 rfl (by show 0 ≤ i ∧ i < ((40 : Nat) : Int); omega) dX5_passesOne_80 (fun H_19 locsH_19 hRH_19 hzH_19 hSH_19 => ?_)
                refine lv_aload_n hx hb dX5_passesOne_81 rfl (lv_at hl 0 rfl) ?_
                refine m_get hx hb hts in_X5_passesOne hown hK hRH_19 10 (by decide) lk_X5_passesOne_32 rfl rfl dX5_passesOne_82 ?_
                refine lv_aload_n hx hb dX5_passesOne_85 rfl (lv_at hl 0 rfl) ?_
                refine m_get hx hb hts in_X5_passesOne hown hK hRH_19 15 (by decide) lk_X5_passesOne_41 rfl rfl dX5_passesOne_86 ?_
                refine lv_iload_n hx hb dX5_passesOne_89 rfl (lv_at hl 2 rfl) ?_
                refine m_ald hx hb hK hRH_19 15 rfl (by show 0 ≤ i ∧ i < ((40 : Nat) : Int); omega) dX5_passesOne_90 ?_
                refine z_top (b := σ 15 i) (by rw [zup_t (t := 19) (t' := 15) (by decide), zAdv_o (by decide)]) ?_
                refine lv_dup2_11 hx hb dX5_passesOne_91 rfl rfl ?_
                refine m_ald hx hb hK hRH_19 10 rfl (by show 0 ≤ (σ 15 i) ∧ (σ 15 i) < ((12 : Nat) : Int); omega) dX5_passesOne_92 ?_
                refine z_top (b := (zAdv σ i (σ 1 0 + 1)) 10 (σ 15 i)) (by rw [zup_t (t := 19) (t' := 10) (by decide)]) ?_
                refine lv_aload_n hx hb dX5_passesOne_93 rfl (lv_at hl 0 rfl) ?_
                refine lv_iload_n hx hb dX5_passesOne_94 rfl (lv_at hl 2 rfl) ?_
                refine z_cv (As := [.int (zI i)]) (rest := [.int (zI ((zAdv σ i (σ 1 0 + 1)) 10 (σ 15 i))), .int (zI (σ 15 i)), .ref (ma 10)]) ⟨hx, hb, hml, hown, hts⟩ (c_X5_billOf l D cI cO cL b ma (zup (zAdv σ i (σ 1 0 + 1)) 19 i 4) H_19 hRH_19 i (by show 0 ≤ i ∧ i < 40; omega) (by show 0 ≤ σ 15 i ∧ σ 15 i < 12; omega) (by show 0 ≤ σ 18 i ∧ σ 18 i < 8; omega)) (cwV 1 hts gX5_passesOne_X5_billOf rfl rfl rfl (by decide +kernel) ⟨Nat.le_of_ble_eq_true rfl, Nat.le_of_ble_eq_true rfl⟩) (zKK_mv D cI cO cL) (fun U _ hv => va_K.moved hv hK) (m_recv hK hRH_19) rfl hl.1 rfl (Nat.le_of_ble_eq_true rfl) dX5_passesOne_95 ⟨Nat.zero_le _, Nat.zero_le _⟩ (fun r_20 hr_20 => ?_)
                rw [hr_20]
                refine z_top (a := (zup (zAdv σ i (σ 1 0 + 1)) 19 i 4) 8 ((zup (zAdv σ i (σ 1 0 + 1)) 19 i 4) 15 i) * (zup (zAdv σ i (σ 1 0 + 1)) 19 i 4) 13 ((zup (zAdv σ i (σ 1 0 + 1)) 19 i 4) 18 i) + 100 * (zup (zAdv σ i (σ 1 0 + 1)) 19 i 4) 9 ((zup (zAdv σ i (σ 1 0 + 1)) 19 i 4) 15 i)) (b := σ 8 (σ 15 i) * σ 13 (σ 18 i) + 100 * σ 9 (σ 15 i)) rfl ?_
                refine z_iadd hx hb dX5_passesOne_98 ?_
                refine m_ast hx hb hK hRH_19 hM hSH_19 10 rfl (by show 0 ≤ (σ 15 i) ∧ (σ 15 i) < ((12 : Nat) : Int); omega) dX5_passesOne_99 (fun H_21 locsH_21 hRH_21 hzH_21 hSH_21 => ?_)
                refine z_iinc (lv' := [(1, .int (zI (v + 1))), (0, .ref b), (2, .int (zI i))]) hx hb dX5_passesOne_100 hl (k := 1) rfl (by decide) rfl (fun ls hl => ?_)
                refine z_iinc (lv' := [(2, .int (zI (i + 1))), (1, .int (zI (v + 1))), (0, .ref b)]) hx hb dX5_passesOne_103 hl (k := 2) rfl (by decide) rfl (fun ls hl => ?_)
                refine lv_goto (tgt := 14) hx hb dX5_passesOne_106 (by decide) ?_
                have hA_22 : RM D cI b ma (zAdv σ (i + 1) (σ 1 0 + 1)) H_21 := by
                  refine RM_adv hRH_21 (fun k j e1 e2 => by simp only [zup_t e1, zup_t e2]) (fun j => ?_) (fun j => ?_)
                  · rw [zup_t (t := 10) (t' := 19) (by decide)]
                    by_cases e : j = i
                    · rw [e, zup_s, zSt_i hi.1]; first | (exfalso; omega) | (rw [if_pos (by omega)]; first | (rw [if_pos (by omega)]) | (rw [if_neg (by omega), if_pos (by omega)]))
                    · rw [zup_i e, zAdv_19]; exact (zSt_o (by omega)).symm
                  · rw [zAdv_10i _ hi.1]
                    by_cases e : j = σ 15 i
                    · rw [e, zup_s, zNewV_t (by first | omega | (exfalso; omega)) rfl]; rfl
                    · rw [zup_i e, zup_t (t := 19) (t' := 10) (by decide), zNewV_p (fun q => e q.symm)]; omega
                exact wo _ _ _ _ _ (ih (v + 1) (i + 1) ls _ _ (by rw [zSum_i _ hi.1, ← hv]; first | (exfalso; omega) | rw [zNewV_t (by omega) trivial]) (by omega) (by exact hA_22) (hzH_21.trans (hzH_19.trans hzL)) hSH_21 (by omega) (lv_sub hl [2, 1, 0] rfl))
          · refine lv_aload_n hx hb dX5_passesOne_45 rfl (lv_at hl 0 rfl) ?_
            refine m_get hx hb hts in_X5_passesOne hown hK hRL 19 (by decide) lk_X5_passesOne_53 rfl rfl dX5_passesOne_46 ?_
            refine lv_iload_n hx hb dX5_passesOne_49 rfl (lv_at hl 2 rfl) ?_
            refine z_iconst hx hb dX5_passesOne_50 ?_
            refine m_ast hx hb hK hRL hM hSL 19 rfl (by show 0 ≤ i ∧ i < ((40 : Nat) : Int); omega) dX5_passesOne_51 (fun H_23 locsH_23 hRH_23 hzH_23 hSH_23 => ?_)
            refine lv_aload_n hx hb dX5_passesOne_52 rfl (lv_at hl 0 rfl) ?_
            refine m_get hx hb hts in_X5_passesOne hown hK hRH_23 19 (by decide) lk_X5_passesOne_53 rfl rfl dX5_passesOne_53 ?_
            refine lv_iload_n hx hb dX5_passesOne_56 rfl (lv_at hl 2 rfl) ?_
            refine m_ald hx hb hK hRH_23 19 rfl (by show 0 ≤ i ∧ i < ((40 : Nat) : Int); omega) dX5_passesOne_57 ?_
            refine z_top (b := 3) (by rw [zup_s]) ?_
            refine z_iconst hx hb dX5_passesOne_58 ?_
            refine z_icmp_ne (tgt := 103) hx hb dX5_passesOne_59 (by decide) (by omega) (fun c_24 => ?_) (fun c_24 => ?_)
            · exact absurd c_24 (by decide)
            · refine lv_aload_n hx hb dX5_passesOne_62 rfl (lv_at hl 0 rfl) ?_
              refine lv_iload_n hx hb dX5_passesOne_63 rfl (lv_at hl 2 rfl) ?_
              refine z_cv (As := [.int (zI i)]) (rest := []) ⟨hx, hb, hml, hown, hts⟩ (c_X5_over l D cI cO cL b ma (zup (zAdv σ i (σ 1 0 + 1)) 19 i 3) H_23 hRH_23 i (by show 0 ≤ i ∧ i < 40; omega) (by show 0 ≤ σ 15 i ∧ σ 15 i < 12; omega)) (cwV 1 hts gX5_passesOne_X5_over rfl rfl rfl (by decide +kernel) ⟨Nat.le_of_ble_eq_true rfl, Nat.le_of_ble_eq_true rfl⟩) (zKK_mv D cI cO cL) (fun U _ hv => va_K.moved hv hK) (m_recv hK hRH_23) rfl hl.1 rfl (Nat.le_of_ble_eq_true rfl) dX5_passesOne_64 ⟨Nat.zero_le _, Nat.zero_le _⟩ (fun r_25 hr_25 => ?_)
              rw [hr_25]
              refine z_top (a := (zup (zAdv σ i (σ 1 0 + 1)) 19 i 3) 20 i + (zup (zAdv σ i (σ 1 0 + 1)) 19 i 3) 8 ((zup (zAdv σ i (σ 1 0 + 1)) 19 i 3) 15 i)) (b := σ 20 i + σ 8 (σ 15 i)) rfl ?_
              refine lv_aload_n hx hb dX5_passesOne_67 rfl (lv_at hl 0 rfl) ?_
              refine m_get hx hb hts in_X5_passesOne hown hK hRH_23 1 (by decide) lk_X5_passesOne_92 rfl rfl dX5_passesOne_68 ?_
              refine z_top (b := (σ 1 0 + 1)) (by rw [zup_t (t := 19) (t' := 1) (by decide), show zAdv σ i (σ 1 0 + 1) 1 0 = σ 1 0 + 1 from rfl]) ?_
              refine z_icmp_ne (tgt := 103) hx hb dX5_passesOne_71 (by decide) (by omega) (fun c_26 => ?_) (fun c_26 => ?_)
              · refine z_iinc (lv' := [(2, .int (zI (i + 1))), (0, .ref b), (1, .int (zI v))]) hx hb dX5_passesOne_103 hl (k := 2) rfl (by decide) rfl (fun ls hl => ?_)
                refine lv_goto (tgt := 14) hx hb dX5_passesOne_106 (by decide) ?_
                have hA_27 : RM D cI b ma (zAdv σ (i + 1) (σ 1 0 + 1)) H_23 := by
                  refine RM_adv hRH_23 (fun k j e1 e2 => by simp only [zup_t e1, zup_t e2]) (fun j => ?_) (fun j => ?_)
                  · by_cases e : j = i
                    · rw [e, zup_s, zSt_i hi.1]; first | (exfalso; omega) | (rw [if_pos (by omega)]; first | (rw [if_pos (by omega)]) | (rw [if_neg (by omega), if_pos (by omega)]))
                    · rw [zup_i e, zAdv_19]; exact (zSt_o (by omega)).symm
                  · rw [zup_t (t := 19) (t' := 10) (by decide)]; rw [zAdv_10i _ hi.1]; first | (exfalso; omega) | (rw [zNewV_f (by omega)]; omega)
                exact wo _ _ _ _ _ (ih v (i + 1) ls _ _ (by rw [zSum_i _ hi.1, ← hv]; first | (exfalso; omega) | (rw [zNewV_f (by omega)]; omega)) (by omega) (by exact hA_27) (hzH_23.trans hzL) hSH_23 (by omega) (lv_sub hl [1, 2, 0] rfl))
              · have jp := hJ.p (i := i) (by omega) (by omega)
                refine lv_aload_n hx hb dX5_passesOne_74 rfl (lv_at hl 0 rfl) ?_
                refine m_get hx hb hts in_X5_passesOne hown hK hRH_23 19 (by decide) lk_X5_passesOne_53 rfl rfl dX5_passesOne_75 ?_
                refine lv_iload_n hx hb dX5_passesOne_78 rfl (lv_at hl 2 rfl) ?_
                refine z_iconst hx hb dX5_passesOne_79 ?_
                refine m_ast hx hb hK hRH_23 hM hSH_23 19 rfl (by show 0 ≤ i ∧ i < ((40 : Nat) : Int); omega) dX5_passesOne_80 (fun H_28 locsH_28 hRH_28 hzH_28 hSH_28 => ?_)
                rw [zup_2] at hRH_28
                refine lv_aload_n hx hb dX5_passesOne_81 rfl (lv_at hl 0 rfl) ?_
                refine m_get hx hb hts in_X5_passesOne hown hK hRH_28 10 (by decide) lk_X5_passesOne_32 rfl rfl dX5_passesOne_82 ?_
                refine lv_aload_n hx hb dX5_passesOne_85 rfl (lv_at hl 0 rfl) ?_
                refine m_get hx hb hts in_X5_passesOne hown hK hRH_28 15 (by decide) lk_X5_passesOne_41 rfl rfl dX5_passesOne_86 ?_
                refine lv_iload_n hx hb dX5_passesOne_89 rfl (lv_at hl 2 rfl) ?_
                refine m_ald hx hb hK hRH_28 15 rfl (by show 0 ≤ i ∧ i < ((40 : Nat) : Int); omega) dX5_passesOne_90 ?_
                refine z_top (b := σ 15 i) (by rw [zup_t (t := 19) (t' := 15) (by decide), zAdv_o (by decide)]) ?_
                refine lv_dup2_11 hx hb dX5_passesOne_91 rfl rfl ?_
                refine m_ald hx hb hK hRH_28 10 rfl (by show 0 ≤ (σ 15 i) ∧ (σ 15 i) < ((12 : Nat) : Int); omega) dX5_passesOne_92 ?_
                refine z_top (b := (zAdv σ i (σ 1 0 + 1)) 10 (σ 15 i)) (by rw [zup_t (t := 19) (t' := 10) (by decide)]) ?_
                refine lv_aload_n hx hb dX5_passesOne_93 rfl (lv_at hl 0 rfl) ?_
                refine lv_iload_n hx hb dX5_passesOne_94 rfl (lv_at hl 2 rfl) ?_
                refine z_cv (As := [.int (zI i)]) (rest := [.int (zI ((zAdv σ i (σ 1 0 + 1)) 10 (σ 15 i))), .int (zI (σ 15 i)), .ref (ma 10)]) ⟨hx, hb, hml, hown, hts⟩ (c_X5_billOf l D cI cO cL b ma (zup (zAdv σ i (σ 1 0 + 1)) 19 i 4) H_28 hRH_28 i (by show 0 ≤ i ∧ i < 40; omega) (by show 0 ≤ σ 15 i ∧ σ 15 i < 12; omega) (by show 0 ≤ σ 18 i ∧ σ 18 i < 8; omega)) (cwV 1 hts gX5_passesOne_X5_billOf rfl rfl rfl (by decide +kernel) ⟨Nat.le_of_ble_eq_true rfl, Nat.le_of_ble_eq_true rfl⟩) (zKK_mv D cI cO cL) (fun U _ hv => va_K.moved hv hK) (m_recv hK hRH_28) rfl hl.1 rfl (Nat.le_of_ble_eq_true rfl) dX5_passesOne_95 ⟨Nat.zero_le _, Nat.zero_le _⟩ (fun r_29 hr_29 => ?_)
                rw [hr_29]
                refine z_top (a := (zup (zAdv σ i (σ 1 0 + 1)) 19 i 4) 8 ((zup (zAdv σ i (σ 1 0 + 1)) 19 i 4) 15 i) * (zup (zAdv σ i (σ 1 0 + 1)) 19 i 4) 13 ((zup (zAdv σ i (σ 1 0 + 1)) 19 i 4) 18 i) + 100 * (zup (zAdv σ i (σ 1 0 + 1)) 19 i 4) 9 ((zup (zAdv σ i (σ 1 0 + 1)) 19 i 4) 15 i)) (b := σ 8 (σ 15 i) * σ 13 (σ 18 i) + 100 * σ 9 (σ 15 i)) rfl ?_
                refine z_iadd hx hb dX5_passesOne_98 ?_
                refine m_ast hx hb hK hRH_28 hM hSH_28 10 rfl (by show 0 ≤ (σ 15 i) ∧ (σ 15 i) < ((12 : Nat) : Int); omega) dX5_passesOne_99 (fun H_30 locsH_30 hRH_30 hzH_30 hSH_30 => ?_)
                refine z_iinc (lv' := [(1, .int (zI (v + 1))), (0, .ref b), (2, .int (zI i))]) hx hb dX5_passesOne_100 hl (k := 1) rfl (by decide) rfl (fun ls hl => ?_)
                refine z_iinc (lv' := [(2, .int (zI (i + 1))), (1, .int (zI (v + 1))), (0, .ref b)]) hx hb dX5_passesOne_103 hl (k := 2) rfl (by decide) rfl (fun ls hl => ?_)
                refine lv_goto (tgt := 14) hx hb dX5_passesOne_106 (by decide) ?_
                have hA_31 : RM D cI b ma (zAdv σ (i + 1) (σ 1 0 + 1)) H_30 := by
                  refine RM_adv hRH_30 (fun k j e1 e2 => by simp only [zup_t e1, zup_t e2]) (fun j => ?_) (fun j => ?_)
                  · rw [zup_t (t := 10) (t' := 19) (by decide)]
                    by_cases e : j = i
                    · rw [e, zup_s, zSt_i hi.1]; first | (exfalso; omega) | (rw [if_pos (by omega)]; first | (rw [if_pos (by omega)]) | (rw [if_neg (by omega), if_pos (by omega)]))
                    · rw [zup_i e, zAdv_19]; exact (zSt_o (by omega)).symm
                  · rw [zAdv_10i _ hi.1]
                    by_cases e : j = σ 15 i
                    · rw [e, zup_s, zNewV_t (by first | omega | (exfalso; omega)) rfl]; rfl
                    · rw [zup_i e, zup_t (t := 19) (t' := 10) (by decide), zNewV_p (fun q => e q.symm)]; omega
                exact wo _ _ _ _ _ (ih (v + 1) (i + 1) ls _ _ (by rw [zSum_i _ hi.1, ← hv]; first | (exfalso; omega) | rw [zNewV_t (by omega) trivial]) (by omega) (by exact hA_31) (hzH_30.trans (hzH_28.trans (hzH_23.trans hzL))) hSH_30 (by omega) (lv_sub hl [2, 1, 0] rfl))
  exact wo _ _ _ _ _ (hL _ 0 0 ls _ _ (by rfl) (by omega) (by exact RM_adv0 hRH_1) (hzH_1.trans rfl) hSH_1 (Nat.lt_succ_self _) (lv_sub hl [2, 1, 0] rfl))
