/-! the reference: pass -/
theorem zInv2_th {σ : zT} (h : zInv2 σ) (v : Int) : zInv2 (zup σ 0 0 v) := h
theorem lk_X5_pass_92 : Cond.fieldLink RX5 92 "HarbourPilotlineModel" "now" "I" ∈ wsX5_pass := by decide +kernel
theorem lk_X5_pass_59 : Cond.fieldLink RX5 59 "HarbourPilotlineModel" "thrown" "I" ∈ wsX5_pass := by decide +kernel
theorem in_X5_pass : ∀ w ∈ wsX50, w ∈ wsX5_pass := by decide +kernel
set_option maxRecDepth 100000 in
set_option maxHeartbeats 4000000 in
theorem c_X5_pass (l : Launch) (D : va_G) (cI cO cL : ClassId) (b : Nat) (ma : Nat → Nat) (hM : MA b ma) (σ : zT) (H0 : Heap) (hR : RM D cI b ma σ H0) (mn : Int) (hI : zInv σ) (hmn : (-2147483648 ≤ mn ∧ mn < 2147483648)) (hJ : zInv2 σ) : zWM l yX5_pass wsX5_pass ({ frames := 2, cells := 0, slots := 0, locals := 43 }) D cI cO cL b ma [.ref b, .int (zI mn)] H0 (zPost (zth_pass σ mn) (zan_pass (zup σ 0 0 0) mn) (zst_pass (zup σ 0 0 0) mn) (zup σ 0 0 (zth_pass σ mn))) := by
  refine Met.ofW (cc := cX5_pass) (maxL := 4) (ret := (some .int)) (by decide) rfl ?_
  intro p e s m args below meth c s₁ B hml hv
  obtain ⟨rfl, hH, hK⟩ := hv
  subst hH
  have hx := B.exec
  have hb := B.bytes
  have hr := B.returns
  have hts := atoms_spec (ws := wsX5_pass) B.pre
  have hown : s.vm.findClass RX5 = some m.cls := findClass_of_methodNamed B.named
  have hlocks := B.notSynchronized
  have hl := lv_entry ([.ref b, .int (zI mn)]) (n := 4) (Nat.le_of_ble_eq_true rfl)
  rw [lg_entry_eq]
  generalize (lg_sl ([.ref b, .int (zI mn)]) ++ List.replicate (4 - (lg_sl ([.ref b, .int (zI mn)])).length) Slot.unset).toArray = ls at hl ⊢
  have hl : lv_has ls 4 [(0, .ref b), (1, .int (zI mn))] := hl
  have f0 := hI.r
  refine lv_aload_n hx hb dX5_pass_0 rfl (lv_at hl 0 rfl) ?_
  refine lv_iload_n hx hb dX5_pass_1 rfl (lv_at hl 1 rfl) ?_
  refine z_iconst hx hb dX5_pass_2 ?_
  refine z_sipush hx hb dX5_pass_3 (by decide +kernel) ?_
  refine z_cs (As := [.int (zI mn), .int (zI 1), .int (zI 2000)]) (rest := [.ref b]) ⟨hx, hb, hml, hown, hts⟩ (c_X5_in l D cI cO cL b ma σ s.heap hR mn 1 2000 (by omega)) (va_cwS 3 hts gX5_pass_X5_in rfl rfl rfl (by decide +kernel) ⟨Nat.le_of_ble_eq_true rfl, Nat.le_of_ble_eq_true rfl⟩) (zKK_mv D cI cO cL) (fun U _ hv => va_K.moved hv hK) rfl hl.1 rfl (Nat.le_of_ble_eq_true rfl) dX5_pass_6 ⟨Nat.zero_le _, Nat.zero_le _⟩ (fun r_1 hr_1 => ?_)
  rw [hr_1]
  refine z_ifb_ne (tgt := 16) hx hb dX5_pass_9 (by decide) (fun c_2 => ?_) (fun c_2 => ?_)
  · refine lv_aload_n hx hb dX5_pass_16 rfl (lv_at hl 0 rfl) ?_
    refine m_get hx hb hts in_X5_pass hown hK hR 1 (by decide) lk_X5_pass_92 rfl rfl dX5_pass_17 ?_
    refine lv_iload_n hx hb dX5_pass_20 rfl (lv_at hl 1 rfl) ?_
    refine z_iadd hx hb dX5_pass_21 ?_
    refine z_sipush hx hb dX5_pass_22 (by decide +kernel) ?_
    refine z_icmp_le (tgt := 32) hx hb dX5_pass_25 (by decide) (by omega) (fun c_3 => ?_) (fun c_3 => ?_)
    · refine z_iconst hx hb dX5_pass_32 ?_
      refine m_put hx hb hts in_X5_pass hown hK hR hM va_S.rf 0 (by decide) rfl lk_X5_pass_59 rfl rfl rfl rfl dX5_pass_33 (fun H_4 locsH_4 hRH_4 hzH_4 hSH_4 => ?_)
      refine z_iconst hx hb dX5_pass_36 ?_
      refine lv_istore_n (lv' := [(2, .int (zI 0)), (0, .ref b), (1, .int (zI mn))]) hx hb dX5_pass_37 rfl hl (by decide) rfl (fun ls hl => ?_)
      refine z_iconst hx hb dX5_pass_38 ?_
      refine lv_istore_n (lv' := [(3, .int (zI 0)), (2, .int (zI 0)), (0, .ref b), (1, .int (zI mn))]) hx hb dX5_pass_39 rfl hl (by decide) rfl (fun ls hl => ?_)
      refine z_cap (fun WW wi wo => ?_)
      have hL : ∀ (n : Nat) (v i : Int) (ls : Array Slot) (HL : Heap) (locsL : List Loc), v = zSum (fun c => zNewV (zup σ 0 0 0) (σ 1 0 + i) c True 1) (σ 14 0).toNat → 0 ≤ i ∧ i ≤ mn → RM D cI b ma (zAdv (zup σ 0 0 0) (σ 14 0) (σ 1 0 + i)) HL → HL.size = s.heap.size → va_S (AM b ma) s.heap HL locsL → (mn - i).toNat < n → lv_has ls 4 [(0, .ref b), (1, .int (zI mn)), (2, .int (zI v)), (3, .int (zI i))] → WW HL locsL 0 0 (F0 m 40 ls []) := by
        intro n
        induction n with
        | zero => intro v i ls HL locsL hv hi hRL hzL hSL hm; exact absurd hm (Nat.not_lt_zero _)
        | succ n ih =>
          intro v i ls HL locsL hv hi hRL hzL hSL hm hl
          refine wi _ _ _ _ _ ?_
          have hIT : zInv (zAdv (zup σ 0 0 0) (σ 14 0) (σ 1 0 + i)) := zInv_adv (zInv_th hI 0) (zInv2_th hJ 0) ⟨by show σ 1 0 ≤ σ 1 0 + i; omega, by omega⟩
          have hJT : zInv2 (zAdv (zup σ 0 0 0) (σ 14 0) (σ 1 0 + i)) := zInv2_adv (zInv_th hI 0) (zInv2_th hJ 0) (by show σ 1 0 ≤ σ 1 0 + i; omega)
          refine lv_iload_n hx hb dX5_pass_40 rfl (lv_at hl 3 rfl) ?_
          refine lv_iload_n hx hb dX5_pass_41 rfl (lv_at hl 1 rfl) ?_
          refine z_icmp_ge (tgt := 65) hx hb dX5_pass_42 (by decide) (by omega) (fun c_5 => ?_) (fun c_5 => ?_)
          · refine lv_iload_n hx hb dX5_pass_65 rfl (lv_at hl 2 rfl) ?_
            have ht : zth_pass σ mn = 0 := by unfold zth_pass; (repeat' split) <;> omega
            exact W.iret hx hb hr (z_endM (post := zPost (zth_pass σ mn) (zan_pass (zup σ 0 0 0) mn) (zst_pass (zup σ 0 0 0) mn) (zup σ 0 0 (zth_pass σ mn))) (σ' := (zAdv (zup σ 0 0 0) (σ 14 0) (σ 1 0 + i))) (v := some (.int (zI v))) (zPost_ok (a := v) ht (by rw [hv, show i = mn by omega]; rfl) (by rw [show i = mn by omega]; rfl)) hRL hzL hSL) hSL.2.2 dX5_pass_66
          · refine lv_aload_n hx hb dX5_pass_45 rfl (lv_at hl 0 rfl) ?_
            refine m_get hx hb hts in_X5_pass hown hK hRL 0 (by decide) lk_X5_pass_59 rfl rfl dX5_pass_46 ?_
            refine z_top (b := 0) (by rw [zAdv_o (by decide), zup_s]) ?_
            refine z_if_ne (tgt := 65) hx hb dX5_pass_49 (by decide) (by omega) (fun c_6 => ?_) (fun c_6 => ?_)
            · exact absurd c_6 (by decide)
            · refine lv_iload_n hx hb dX5_pass_52 rfl (lv_at hl 2 rfl) ?_
              refine lv_aload_n hx hb dX5_pass_53 rfl (lv_at hl 0 rfl) ?_
              refine z_wm (As := []) (rest := [.int (zI v)]) ⟨hx, hb, hml, hown, hts⟩ (c_X5_passesOne l D cI cO cL b ma hM (zAdv (zup σ 0 0 0) (σ 14 0) (σ 1 0 + i)) HL hRL  hIT hJT (by show σ 1 0 + i < 20000; omega)) (cwV 0 hts gX5_pass_X5_passesOne rfl rfl rfl (by decide +kernel) ⟨Nat.le_of_ble_eq_true rfl, Nat.le_of_ble_eq_true rfl⟩) hK hSL (m_recv hK hRL) rfl hl.1 rfl (Nat.le_of_ble_eq_true rfl) dX5_pass_54 ⟨Nat.zero_le _, Nat.zero_le _⟩ (fun rH_7 σH_7 H_7 locsH_7 hpH_7 hRH_7 hzH_7 hSH_7 => ?_)
              obtain ⟨rfl, rfl⟩ := hpH_7
              refine z_iadd hx hb dX5_pass_57 ?_
              refine lv_istore_n (lv' := [(2, .int (zI (v + (zSum (fun c => zNewV (zAdv (zup σ 0 0 0) (σ 14 0) (σ 1 0 + i)) ((zAdv (zup σ 0 0 0) (σ 14 0) (σ 1 0 + i)) 1 0 + 1) c True 1) ((zAdv (zup σ 0 0 0) (σ 14 0) (σ 1 0 + i)) 14 0).toNat)))), (0, .ref b), (1, .int (zI mn)), (3, .int (zI i))]) hx hb dX5_pass_58 rfl hl (by decide) rfl (fun ls hl => ?_)
              refine z_iinc (lv' := [(3, .int (zI (i + 1))), (2, .int (zI (v + (zSum (fun c => zNewV (zAdv (zup σ 0 0 0) (σ 14 0) (σ 1 0 + i)) ((zAdv (zup σ 0 0 0) (σ 14 0) (σ 1 0 + i)) 1 0 + 1) c True 1) ((zAdv (zup σ 0 0 0) (σ 14 0) (σ 1 0 + i)) 14 0).toNat)))), (0, .ref b), (1, .int (zI mn))]) hx hb dX5_pass_59 hl (k := 3) rfl (by decide) rfl (fun ls hl => ?_)
              refine lv_goto (tgt := 40) hx hb dX5_pass_62 (by decide) ?_
              exact wo _ _ _ _ _ (ih (v + (zSum (fun c => zNewV (zAdv (zup σ 0 0 0) (σ 14 0) (σ 1 0 + i)) ((zAdv (zup σ 0 0 0) (σ 14 0) (σ 1 0 + i)) 1 0 + 1) c True 1) ((zAdv (zup σ 0 0 0) (σ 14 0) (σ 1 0 + i)) 14 0).toNat)) (i + 1) ls _ _ (by rw [hv, show σ 1 0 + (i + 1) = σ 1 0 + i + 1 by omega]; exact zSum_add (fun c a b => zNewV_c (t1 := σ 1 0 + i) (t2 := σ 1 0 + i + 1) (zInv_th hI 0) (zInv2_th hJ 0) True ⟨by show σ 1 0 ≤ σ 1 0 + i; omega, by omega⟩ ⟨a, by show c < σ 14 0; omega⟩)) (by omega) (by exact RM.eq hRH_7 (fun k j => by rw [show σ 1 0 + (i + 1) = σ 1 0 + i + 1 by omega]; exact zAdv_c (t1 := σ 1 0 + i) (t2 := σ 1 0 + i + 1) (zInv_th hI 0) (zInv2_th hJ 0) ⟨by show σ 1 0 ≤ σ 1 0 + i; omega, by omega⟩ k j)) (hzH_7.trans hzL) hSH_7 (by omega) (lv_sub hl [2, 3, 1, 0] rfl))
      exact wo _ _ _ _ _ (hL _ 0 0 ls _ _ (by rw [Int.add_zero]; exact (zSum_z (fun c a b => zNewV_0 (zInv_th hI 0) (zInv2_th hJ 0) True ⟨a, by show c < σ 14 0; omega⟩)).symm) (by omega) (by exact RM.eq hRH_4 (fun k j => by rw [Int.add_zero]; exact (zAdv_now (zInv_th hI 0) (zInv2_th hJ 0) k j).symm)) (hzH_4.trans rfl) hSH_4 (Nat.lt_succ_self _) (lv_sub hl [2, 3, 1, 0] rfl))
    · refine z_iconst hx hb dX5_pass_28 ?_
      refine lv_goto (tgt := 33) hx hb dX5_pass_29 (by decide) ?_
      refine m_put hx hb hts in_X5_pass hown hK hR hM va_S.rf 0 (by decide) rfl lk_X5_pass_59 rfl rfl rfl rfl dX5_pass_33 (fun H_8 locsH_8 hRH_8 hzH_8 hSH_8 => ?_)
      refine z_iconst hx hb dX5_pass_36 ?_
      refine lv_istore_n (lv' := [(2, .int (zI 0)), (0, .ref b), (1, .int (zI mn))]) hx hb dX5_pass_37 rfl hl (by decide) rfl (fun ls hl => ?_)
      refine z_iconst hx hb dX5_pass_38 ?_
      refine lv_istore_n (lv' := [(3, .int (zI 0)), (2, .int (zI 0)), (0, .ref b), (1, .int (zI mn))]) hx hb dX5_pass_39 rfl hl (by decide) rfl (fun ls hl => ?_)
      refine lv_iload_n hx hb dX5_pass_40 rfl (lv_at hl 0 rfl) ?_
      refine lv_iload_n hx hb dX5_pass_41 rfl (lv_at hl 3 rfl) ?_
      refine z_icmp_ge (tgt := 65) hx hb dX5_pass_42 (by decide) (by omega) (fun c_9 => ?_) (fun c_9 => ?_)
      · refine lv_iload_n hx hb dX5_pass_65 rfl (lv_at hl 1 rfl) ?_
        have ht : zth_pass σ mn = 2 := by unfold zth_pass; (repeat' split) <;> omega
        exact W.iret hx hb hr (z_endM (post := zPost (zth_pass σ mn) (zan_pass (zup σ 0 0 0) mn) (zst_pass (zup σ 0 0 0) mn) (zup σ 0 0 (zth_pass σ mn))) (σ' := (zup σ 0 0 2)) (v := some (.int (zI 0))) (zPost_no (a := 0) ht (by decide)) hRH_8 (hzH_8.trans rfl) hSH_8) hSH_8.2.2 dX5_pass_66
      · refine lv_aload_n hx hb dX5_pass_45 rfl (lv_at hl 2 rfl) ?_
        refine m_get hx hb hts in_X5_pass hown hK hRH_8 0 (by decide) lk_X5_pass_59 rfl rfl dX5_pass_46 ?_
        refine z_top (b := 2) (by rw [zup_s]) ?_
        refine z_if_ne (tgt := 65) hx hb dX5_pass_49 (by decide) (by omega) (fun c_10 => ?_) (fun c_10 => ?_)
        · refine lv_iload_n hx hb dX5_pass_65 rfl (lv_at hl 1 rfl) ?_
          have ht : zth_pass σ mn = 2 := by unfold zth_pass; (repeat' split) <;> omega
          exact W.iret hx hb hr (z_endM (post := zPost (zth_pass σ mn) (zan_pass (zup σ 0 0 0) mn) (zst_pass (zup σ 0 0 0) mn) (zup σ 0 0 (zth_pass σ mn))) (σ' := (zup σ 0 0 2)) (v := some (.int (zI 0))) (zPost_no (a := 0) ht (by decide)) hRH_8 (hzH_8.trans rfl) hSH_8) hSH_8.2.2 dX5_pass_66
        · exact absurd c_10 (by decide)
  · refine z_iconst hx hb dX5_pass_12 ?_
    refine lv_goto (tgt := 33) hx hb dX5_pass_13 (by decide) ?_
    refine m_put hx hb hts in_X5_pass hown hK hR hM va_S.rf 0 (by decide) rfl lk_X5_pass_59 rfl rfl rfl rfl dX5_pass_33 (fun H_11 locsH_11 hRH_11 hzH_11 hSH_11 => ?_)
    refine z_iconst hx hb dX5_pass_36 ?_
    refine lv_istore_n (lv' := [(2, .int (zI 0)), (0, .ref b), (1, .int (zI mn))]) hx hb dX5_pass_37 rfl hl (by decide) rfl (fun ls hl => ?_)
    refine z_iconst hx hb dX5_pass_38 ?_
    refine lv_istore_n (lv' := [(3, .int (zI 0)), (2, .int (zI 0)), (0, .ref b), (1, .int (zI mn))]) hx hb dX5_pass_39 rfl hl (by decide) rfl (fun ls hl => ?_)
    refine lv_iload_n hx hb dX5_pass_40 rfl (lv_at hl 0 rfl) ?_
    refine lv_iload_n hx hb dX5_pass_41 rfl (lv_at hl 3 rfl) ?_
    refine z_icmp_ge (tgt := 65) hx hb dX5_pass_42 (by decide) (by omega) (fun c_12 => ?_) (fun c_12 => ?_)
    · refine lv_iload_n hx hb dX5_pass_65 rfl (lv_at hl 1 rfl) ?_
      have ht : zth_pass σ mn = 1 := by unfold zth_pass; (repeat' split) <;> omega
      exact W.iret hx hb hr (z_endM (post := zPost (zth_pass σ mn) (zan_pass (zup σ 0 0 0) mn) (zst_pass (zup σ 0 0 0) mn) (zup σ 0 0 (zth_pass σ mn))) (σ' := (zup σ 0 0 1)) (v := some (.int (zI 0))) (zPost_no (a := 0) ht (by decide)) hRH_11 (hzH_11.trans rfl) hSH_11) hSH_11.2.2 dX5_pass_66
    · refine lv_aload_n hx hb dX5_pass_45 rfl (lv_at hl 2 rfl) ?_
      refine m_get hx hb hts in_X5_pass hown hK hRH_11 0 (by decide) lk_X5_pass_59 rfl rfl dX5_pass_46 ?_
      refine z_top (b := 1) (by rw [zup_s]) ?_
      refine z_if_ne (tgt := 65) hx hb dX5_pass_49 (by decide) (by omega) (fun c_13 => ?_) (fun c_13 => ?_)
      · refine lv_iload_n hx hb dX5_pass_65 rfl (lv_at hl 1 rfl) ?_
        have ht : zth_pass σ mn = 1 := by unfold zth_pass; (repeat' split) <;> omega
        exact W.iret hx hb hr (z_endM (post := zPost (zth_pass σ mn) (zan_pass (zup σ 0 0 0) mn) (zst_pass (zup σ 0 0 0) mn) (zup σ 0 0 (zth_pass σ mn))) (σ' := (zup σ 0 0 1)) (v := some (.int (zI 0))) (zPost_no (a := 0) ht (by decide)) hRH_11 (hzH_11.trans rfl) hSH_11) hSH_11.2.2 dX5_pass_66
      · exact absurd c_13 (by decide)
