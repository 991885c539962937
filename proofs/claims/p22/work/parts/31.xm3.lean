/-! the class: join -/
def zHB (σ : zT) (k : Int) : Prop := (0 ≤ σ 17 k ∧ σ 17 k ≤ 7) ∧ -1 ≤ σ 18 k ∧ (zBit (σ 17 k) 2 = 1 ↔ 0 ≤ σ 18 k)
theorem zSet_b2 {x w : Int} (hw : w = 0 ∨ w = 1) (h : 0 ≤ x ∧ x ≤ 7) : zBit (zSet x w) 2 = zBit x 2 := by
  rcases hw with q | q
  · subst q; unfold zSet zBit zPw; simp; split <;> omega
  · subst q; unfold zSet zBit zPw; simp; split <;> omega
theorem zSet_b22 {x : Int} (h : 0 ≤ x ∧ x ≤ 7) : zBit (zSet x 2) 2 = 1 := by
  unfold zSet zBit zPw; simp; split <;> omega
theorem zHB_w {σ : zT} {k w : Int} (h : zHB σ k) (hw : w = 0 ∨ w = 1) : zHB (zup σ 17 k (zSet (σ 17 k) w)) k := by
  refine ⟨by rw [zup_s]; exact zSet_r h.1 (by omega), h.2.1, ?_⟩
  rw [zup_s, zSet_b2 hw h.1]
  exact h.2.2
theorem zHB_2 {σ : zT} {k q : Int} (h : zHB σ k) (hq : 0 ≤ q) : zHB (zup (zup σ 17 k (zSet (σ 17 k) 2)) 18 k q) k := by
  refine ⟨by rw [zup_t (by decide), zup_s]; exact zSet_r h.1 (by omega), by rw [zup_s]; omega, ?_⟩
  rw [zup_t (by decide), zup_s, zup_s, zSet_b22 h.1]
  exact ⟨fun _ => hq, fun _ => rfl⟩
theorem zMany_r {x : Int} (h : 0 ≤ x ∧ x ≤ 7) : 0 ≤ zMany x ∧ zMany x ≤ 3 := by unfold zMany; omega
theorem lk_X4_join_122 : Cond.fieldLink RX4 122 "HarbourPilotline$Conference" "slot" "I" ∈ wsX4_join := by decide +kernel
theorem ck_X4_join_92 : Cond.classLink RX4 92 "java/lang/IllegalStateException" ∈ wsX4_join := by decide +kernel
theorem ci_X4_join_92 : Cond.initialized "java/lang/IllegalStateException" ∈ wsX4_join := by decide +kernel
theorem cw_X4_join_96 : ∀ w ∈ (vx_atS RX4 96 "java/lang/IllegalStateException" ["java/lang/RuntimeException", "java/lang/Exception"]).filter goodWord, w ∈ wsX4_join := by decide +kernel
theorem in_X4_join_X0 : ∀ w ∈ wsX00, w ∈ wsX4_join := by decide +kernel
set_option maxRecDepth 100000 in
set_option maxHeartbeats 4000000 in
theorem c_X4_join_0 (l : Launch) (hfl : l.stackTraces = false) (D : va_G) (cI cO cL : ClassId) (A : Nat → Prop) (eE mi : Nat) (sa : Nat → Nat) (g : zG) (σ : zT) (H0 : Heap) (hR : RX D cO A eE g σ H0) (k q : Int) (hI : zInv σ) (hJ : zInv2 σ) (hA : (-2147483648 ≤ k ∧ k < 2147483648) ∧ (-2147483648 ≤ q ∧ q < 2147483648)) : zXM l yX4_join wsX4_join ({ frames := 7, cells := 4, slots := 24, locals := 161 }) D cI cO cL A eE mi sa g σ [.ref (g 0 0), .int (zI k), .int (zI 0), .int (zI q)] H0 (fun rv σ' g' => (zth_join σ k 0 q = 0 ∧ rv = some (.int (zI (zan_join σ k 0 q))) ∧ σ' = zst_join σ k 0 q) ∧ g' 0 0 = g 0 0) (fun E => (zth_join σ k 0 q = 1 ∧ E = xIO) ∨ (zth_join σ k 0 q = 2 ∧ E = xIS)) := by
  refine vx_ofW (cc := cX4_join) (maxL := 6) (ret := (some .int)) (by decide) rfl ?_
  intro p e s m args below meth c s₁ B hml hno hv
  obtain ⟨rfl, hH, hG⟩ := hv
  subst hH
  have hK := hG.k
  have hx := B.exec
  have hb := B.bytes
  have hr := B.returns
  have hts := atoms_spec (ws := wsX4_join) B.pre
  have hown : s.vm.findClass RX4 = some m.cls := findClass_of_methodNamed B.named
  have hlocks := B.notSynchronized
  have hl := lv_entry ([.ref (g 0 0), .int (zI k), .int (zI 0), .int (zI q)]) (n := 6) (Nat.le_of_ble_eq_true rfl)
  rw [lg_entry_eq]
  generalize (lg_sl ([.ref (g 0 0), .int (zI k), .int (zI 0), .int (zI q)]) ++ List.replicate (6 - (lg_sl ([.ref (g 0 0), .int (zI k), .int (zI 0), .int (zI q)])).length) Slot.unset).toArray = ls at hl ⊢
  have hl : lv_has ls 6 [(0, .ref (g 0 0)), (1, .int (zI k)), (2, .int (zI 0)), (3, .int (zI q))] := hl
  have f0 := hI.r
  refine lv_aload_n hx hb dX4_join_0 rfl (lv_at hl 0 rfl) ?_
  refine lv_iload_n hx hb dX4_join_1 rfl (lv_at hl 1 rfl) ?_
  refine z_xmV (As := [.int (zI k)]) (rest := []) ⟨hx, hb, hml, hown, hts⟩ (c_X4_conferenceAt l hfl D cI cO cL A eE mi sa g σ s.heap hR k hI (by omega)) (cwV 1 hts gX4_join_X4_conferenceAt rfl rfl rfl (by decide +kernel) ⟨Nat.le_of_ble_eq_true rfl, Nat.le_of_ble_eq_true rfl⟩) hG va_S.rf (z_recv hK hR.x rfl) rfl hl.1 rfl (Nat.le_of_ble_eq_true rfl) dX4_join_2 ⟨Nat.le_of_ble_eq_true rfl, Nat.le_of_ble_eq_true rfl⟩ (fun E ce q9 H1 locs1 hpx hRx hzx hkx hSx hcx hvx hclx => by
    obtain ⟨hn, rfl⟩ := hpx
    exact z_xout (px' := fun E => (zth_join σ k 0 q = 1 ∧ E = xIO) ∨ (zth_join σ k 0 q = 2 ∧ E = xIS)) hno hlocks hcx hvx hclx (Or.inl ⟨by unfold zth_join; (repeat' split) <;> omega, rfl⟩) hRx hSx ⟨Nat.le_of_ble_eq_true rfl, Nat.le_of_ble_eq_true rfl⟩) (fun rH_1 σH_1 gH_1 H_1 locsH_1 hpH_1 hRH_1 hzH_1 hkH_1 hSH_1 => ?_)
  obtain ⟨hdH_1, erH_1, esH_1, egH_1⟩ := hpH_1
  rw [esH_1, egH_1] at hRH_1
  rw [erH_1]
  have hk := hdH_1
  have fk := hI.c hk
  have gk := hI.s (i := σ 15 k) (by omega)
  have jk := hJ.c hk
  have bk := zBit_r (σ 17 k) 0
  have hHB0 : zHB σ k := ⟨fk.2.2.1, fk.2.2.2.1.1, jk.2.2.2.2⟩
  have m7 := zMany_7 (zSet_r fk.2.2.1 (w := 0) (by decide))
  have mr := zMany_r (zSet_r fk.2.2.1 (w := 0) (by decide))
  refine lv_astore (lv' := [(4, .ref (g 6 k)), (0, .ref (g 0 0)), (1, .int (zI k)), (2, .int (zI 0)), (3, .int (zI q))]) hx hb dX4_join_5 hl (by decide) rfl (fun ls hl => ?_)
  refine lv_iload_n hx hb dX4_join_7 rfl (lv_at hl 3 rfl) ?_
  refine z_xmS (As := [.int (zI 0)]) (rest := []) ⟨hx, hb, hml, hown, hts⟩ (c_X4_demandWho l hfl D cI cO cL A eE mi sa g σ H_1 hRH_1 0 (by omega)) (va_cwS 1 hts gX4_join_X4_demandWho rfl rfl rfl (by decide +kernel) ⟨Nat.le_of_ble_eq_true rfl, Nat.le_of_ble_eq_true rfl⟩) hG hSH_1 rfl hl.1 rfl (Nat.le_of_ble_eq_true rfl) dX4_join_8 ⟨Nat.le_of_ble_eq_true rfl, Nat.le_of_ble_eq_true rfl⟩ (fun E ce q9 H1 locs1 hpx hRx hzx hkx hSx hcx hvx hclx => by
    obtain ⟨hn, rfl⟩ := hpx
    exact z_xout (px' := fun E => (zth_join σ k 0 q = 1 ∧ E = xIO) ∨ (zth_join σ k 0 q = 2 ∧ E = xIS)) hno hlocks hcx hvx hclx (Or.inl ⟨by unfold zth_join; (repeat' split) <;> omega, rfl⟩) hRx hSx ⟨Nat.le_of_ble_eq_true rfl, Nat.le_of_ble_eq_true rfl⟩) (fun rH_2 σH_2 gH_2 H_2 locsH_2 hpH_2 hRH_2 hzH_2 hkH_2 hSH_2 => ?_)
  obtain ⟨hdH_2, erH_2, esH_2, egH_2⟩ := hpH_2
  rw [esH_2, egH_2] at hRH_2
  rw [erH_2]
  refine lv_iload_n hx hb dX4_join_11 rfl (lv_at hl 3 rfl) ?_
  refine z_iconst hx hb dX4_join_12 ?_
  refine z_icmp_ne (tgt := 24) hx hb dX4_join_13 (by decide) (by omega) (fun c_3 => ?_) (fun c_3 => ?_)
  · refine lv_null hx hb dX4_join_24 ?_
    refine lv_astoreN (lv' := [(5, .null), (4, .ref (g 6 k)), (0, .ref (g 0 0)), (1, .int (zI k)), (2, .int (zI 0)), (3, .int (zI q))]) hx hb dX4_join_25 hl (by decide) rfl (fun ls hl => ?_)
    refine lv_aload hx hb dX4_join_27 (lv_at hl 1 rfl) ?_
    refine lv_iload_n hx hb dX4_join_29 rfl (lv_at hl 4 rfl) ?_
    refine z_cv (As := [.int (zI 0)]) (rest := []) ⟨hx, hb, hml, hown, hts⟩ (c_X0_hasIn l D cI cO cL A eE g σ H_2 hRH_2 k 0 (by omega) (by omega) (by omega)) (cwV 1 hts gX4_join_X0_hasIn rfl rfl rfl (by decide +kernel) ⟨Nat.le_of_ble_eq_true rfl, Nat.le_of_ble_eq_true rfl⟩) (zKK_mv D cI cO cL) (fun U _ hv => va_K.moved hv hK) (z_recv hK (hRH_2.c (i := k) (by show 0 ≤ k ∧ k < σ 14 0; omega)) rfl) rfl hl.1 rfl (Nat.le_of_ble_eq_true rfl) dX4_join_30 ⟨Nat.le_of_ble_eq_true rfl, Nat.le_of_ble_eq_true rfl⟩ (fun r_4 hr_4 => ?_)
    rw [hr_4]
    refine z_if_eq (tgt := 46) hx hb dX4_join_33 (by decide) (by omega) (fun c_5 => ?_) (fun c_5 => ?_)
    · refine lv_aloadN hx hb dX4_join_46 (lv_at hl 0 rfl) ?_
      refine lv_ifnullN (tgt := 77) hx hb dX4_join_48 (by decide) ?_
      refine lv_aload hx hb dX4_join_77 (lv_at hl 1 rfl) ?_
      refine lv_iload_n hx hb dX4_join_79 rfl (lv_at hl 4 rfl) ?_
      refine lv_aloadN hx hb dX4_join_80 (lv_at hl 0 rfl) ?_
      refine z_wx (As := [.int (zI 0), .null]) (rest := []) ⟨hx, hb, hml, hown, hts⟩ (c_X0_letIn_0 l D cI cO cL A eE g σ H_2 hRH_2 k (by omega)) (cwV 2 hts gX4_join_X0_letIn rfl rfl rfl (by decide +kernel) ⟨Nat.le_of_ble_eq_true rfl, Nat.le_of_ble_eq_true rfl⟩) hK hSH_2 (z_recv hK (hRH_2.c (i := k) (by show 0 ≤ k ∧ k < σ 14 0; omega)) rfl) rfl hl.1 rfl (Nat.le_of_ble_eq_true rfl) dX4_join_82 ⟨Nat.le_of_ble_eq_true rfl, Nat.le_of_ble_eq_true rfl⟩ (fun rH_6 σH_6 H_6 locsH_6 hpH_6 hRH_6 hzH_6 hSH_6 => ?_)
      obtain ⟨eH_6, qH_6⟩ := hpH_6
      rw [eH_6]
      rw [qH_6] at hRH_6
      have hHB : zHB (zup σ 17 k (zSet (σ 17 k) 0)) k := zHB_w hHB0 (by omega)
      refine lv_aload hx hb dX4_join_85 (lv_at hl 1 rfl) ?_
      refine z_cv (As := []) (rest := []) ⟨hx, hb, hml, hown, hts⟩ (c_X0_howManyIn l D cI cO cL A eE g (zup σ 17 k (zSet (σ 17 k) 0)) H_6 hRH_6 k (by show 0 ≤ k ∧ k < σ 14 0; omega) hHB) (cwV 0 hts gX4_join_X0_howManyIn rfl rfl rfl (by decide +kernel) ⟨Nat.le_of_ble_eq_true rfl, Nat.le_of_ble_eq_true rfl⟩) (zKK_mv D cI cO cL) (fun U _ hv => va_K.moved hv hK) (z_recv hK (hRH_6.c (i := k) (by show 0 ≤ k ∧ k < σ 14 0; omega)) rfl) rfl hl.1 rfl (Nat.le_of_ble_eq_true rfl) dX4_join_87 ⟨Nat.le_of_ble_eq_true rfl, Nat.le_of_ble_eq_true rfl⟩ (fun r_7 hr_7 => ?_)
      rw [hr_7]
      refine z_top (b := zMany (zSet (σ 17 k) 0)) (by rw [zup_s]) ?_
      refine z_iconst hx hb dX4_join_90 ?_
      refine z_icmp_ne (tgt := 100) hx hb dX4_join_91 (by decide) (by omega) (fun c_8 => ?_) (fun c_8 => ?_)
      · refine lv_aload hx hb dX4_join_100 (lv_at hl 1 rfl) ?_
        refine z_get hx hb hts in_X4_join_X0 hown hK (hRH_6.c (i := k) (by show 0 ≤ k ∧ k < σ 14 0; omega)) rfl 6 (by decide) lk_X4_join_122 rfl rfl dX4_join_102 ?_
        refine z_top (b := σ 20 k) (by rw [zup_t (t := 17) (t' := 20) (by decide)]) ?_
        exact vx_ret (W.widen (k := 4) (n := 24) (Nat.le_of_ble_eq_true rfl) (Nat.le_of_ble_eq_true rfl) (W.iret hx hb hr (z_endG (post := fun rv σ' g' => (zth_join σ k 0 q = 0 ∧ rv = some (.int (zI (zan_join σ k 0 q))) ∧ σ' = zst_join σ k 0 q) ∧ g' 0 0 = g 0 0) (σ' := zst_join σ k 0 q) (g' := g) (v := (some (.int (zI (σ 20 k))))) ⟨⟨(by unfold zth_join; (repeat' split) <;> omega), (congrArg (fun z => some (Value.int (zI z))) (show (σ 20 k) = zan_join σ k 0 q by unfold zan_join zst_join; rw [if_neg (by omega)]; rfl)), rfl⟩, rfl⟩ (hRH_6.eqT (fun a b => by unfold zst_join; rw [if_neg (by omega)]; rfl)) hSH_6) hSH_6.2.2 dX4_join_105))
      · refine lv_aload_n hx hb dX4_join_94 rfl (lv_at hl 2 rfl) ?_
        refine lv_aload hx hb dX4_join_95 (lv_at hl 1 rfl) ?_
        refine z_wx (As := [.ref (g 6 k)]) (rest := []) ⟨hx, hb, hml, hown, hts⟩ (c_X4_lookForSlot l D cI cO cL A eE g (zup σ 17 k (zSet (σ 17 k) 0)) H_6 hRH_6 k (zInv_17 hI (zSet_r fk.2.2.1 (w := 0) (by decide))) (by show 0 ≤ k ∧ k < σ 14 0; omega)) (cwV 1 hts gX4_join_X4_lookForSlot rfl rfl rfl (by decide +kernel) ⟨Nat.le_of_ble_eq_true rfl, Nat.le_of_ble_eq_true rfl⟩) hK hSH_6 (z_recv hK hRH_6.x rfl) rfl hl.1 rfl (Nat.le_of_ble_eq_true rfl) dX4_join_97 ⟨Nat.le_of_ble_eq_true rfl, Nat.le_of_ble_eq_true rfl⟩ (fun rH_9 σH_9 H_9 locsH_9 hpH_9 hRH_9 hzH_9 hSH_9 => ?_)
        obtain ⟨eH_9, qH_9⟩ := hpH_9
        rw [eH_9]
        rw [qH_9] at hRH_9
        refine lv_aload hx hb dX4_join_100 (lv_at hl 1 rfl) ?_
        refine z_get hx hb hts in_X4_join_X0 hown hK (hRH_9.c (i := k) (by show 0 ≤ k ∧ k < σ 14 0; omega)) rfl 6 (by decide) lk_X4_join_122 rfl rfl dX4_join_102 ?_
        exact vx_ret (W.widen (k := 4) (n := 24) (Nat.le_of_ble_eq_true rfl) (Nat.le_of_ble_eq_true rfl) (W.iret hx hb hr (z_endG (post := fun rv σ' g' => (zth_join σ k 0 q = 0 ∧ rv = some (.int (zI (zan_join σ k 0 q))) ∧ σ' = zst_join σ k 0 q) ∧ g' 0 0 = g 0 0) (σ' := zst_join σ k 0 q) (g' := g) (v := (some (.int (zI ((zLook (zup σ 17 k (zSet (σ 17 k) 0)) k) 20 k))))) ⟨⟨(by unfold zth_join; (repeat' split) <;> omega), (congrArg (fun z => some (Value.int (zI z))) (show ((zLook (zup σ 17 k (zSet (σ 17 k) 0)) k) 20 k) = zan_join σ k 0 q by unfold zan_join zst_join; rw [if_pos (by omega)]; rfl)), rfl⟩, rfl⟩ (hRH_9.eqT (fun a b => by unfold zst_join; rw [if_pos (by omega)]; rfl)) hSH_9) hSH_9.2.2 dX4_join_105))
    · exact z_throw (px := fun E => (zth_join σ k 0 q = 1 ∧ E = xIO) ∨ (zth_join σ k 0 q = 2 ∧ E = xIS)) (text := "in it already") hx hb hfl hno hlocks hown hts (hl.1.trans hml.symm) x_fit2 x_nms ck_X4_join_92 ci_X4_join_92 cw_X4_join_96 x_bad2 (by decide) (by decide) x_good2 hG hRH_2 hSH_2 (Or.inr (⟨by unfold zth_join; (repeat' split) <;> omega, rfl⟩)) dX4_join_36 dX4_join_39 dX4_join_40 dX4_join_42 dX4_join_45 ⟨Nat.le_of_ble_eq_true rfl, Nat.le_of_ble_eq_true rfl, Nat.le_of_ble_eq_true rfl, Nat.le_of_ble_eq_true rfl, Nat.le_of_ble_eq_true rfl, Nat.le_of_ble_eq_true rfl⟩
  · exact absurd c_3 (by decide)

set_option maxRecDepth 100000 in
set_option maxHeartbeats 4000000 in
theorem c_X4_join_1 (l : Launch) (hfl : l.stackTraces = false) (D : va_G) (cI cO cL : ClassId) (A : Nat → Prop) (eE mi : Nat) (sa : Nat → Nat) (g : zG) (σ : zT) (H0 : Heap) (hR : RX D cO A eE g σ H0) (k q : Int) (hI : zInv σ) (hJ : zInv2 σ) (hA : (-2147483648 ≤ k ∧ k < 2147483648) ∧ (-2147483648 ≤ q ∧ q < 2147483648)) : zXM l yX4_join wsX4_join ({ frames := 7, cells := 4, slots := 24, locals := 161 }) D cI cO cL A eE mi sa g σ [.ref (g 0 0), .int (zI k), .int (zI 1), .int (zI q)] H0 (fun rv σ' g' => (zth_join σ k 1 q = 0 ∧ rv = some (.int (zI (zan_join σ k 1 q))) ∧ σ' = zst_join σ k 1 q) ∧ g' 0 0 = g 0 0) (fun E => (zth_join σ k 1 q = 1 ∧ E = xIO) ∨ (zth_join σ k 1 q = 2 ∧ E = xIS)) := by
  refine vx_ofW (cc := cX4_join) (maxL := 6) (ret := (some .int)) (by decide) rfl ?_
  intro p e s m args below meth c s₁ B hml hno hv
  obtain ⟨rfl, hH, hG⟩ := hv
  subst hH
  have hK := hG.k
  have hx := B.exec
  have hb := B.bytes
  have hr := B.returns
  have hts := atoms_spec (ws := wsX4_join) B.pre
  have hown : s.vm.findClass RX4 = some m.cls := findClass_of_methodNamed B.named
  have hlocks := B.notSynchronized
  have hl := lv_entry ([.ref (g 0 0), .int (zI k), .int (zI 1), .int (zI q)]) (n := 6) (Nat.le_of_ble_eq_true rfl)
  rw [lg_entry_eq]
  generalize (lg_sl ([.ref (g 0 0), .int (zI k), .int (zI 1), .int (zI q)]) ++ List.replicate (6 - (lg_sl ([.ref (g 0 0), .int (zI k), .int (zI 1), .int (zI q)])).length) Slot.unset).toArray = ls at hl ⊢
  have hl : lv_has ls 6 [(0, .ref (g 0 0)), (1, .int (zI k)), (2, .int (zI 1)), (3, .int (zI q))] := hl
  have f0 := hI.r
  refine lv_aload_n hx hb dX4_join_0 rfl (lv_at hl 0 rfl) ?_
  refine lv_iload_n hx hb dX4_join_1 rfl (lv_at hl 1 rfl) ?_
  refine z_xmV (As := [.int (zI k)]) (rest := []) ⟨hx, hb, hml, hown, hts⟩ (c_X4_conferenceAt l hfl D cI cO cL A eE mi sa g σ s.heap hR k hI (by omega)) (cwV 1 hts gX4_join_X4_conferenceAt rfl rfl rfl (by decide +kernel) ⟨Nat.le_of_ble_eq_true rfl, Nat.le_of_ble_eq_true rfl⟩) hG va_S.rf (z_recv hK hR.x rfl) rfl hl.1 rfl (Nat.le_of_ble_eq_true rfl) dX4_join_2 ⟨Nat.le_of_ble_eq_true rfl, Nat.le_of_ble_eq_true rfl⟩ (fun E ce q9 H1 locs1 hpx hRx hzx hkx hSx hcx hvx hclx => by
    obtain ⟨hn, rfl⟩ := hpx
    exact z_xout (px' := fun E => (zth_join σ k 1 q = 1 ∧ E = xIO) ∨ (zth_join σ k 1 q = 2 ∧ E = xIS)) hno hlocks hcx hvx hclx (Or.inl ⟨by unfold zth_join; (repeat' split) <;> omega, rfl⟩) hRx hSx ⟨Nat.le_of_ble_eq_true rfl, Nat.le_of_ble_eq_true rfl⟩) (fun rH_1 σH_1 gH_1 H_1 locsH_1 hpH_1 hRH_1 hzH_1 hkH_1 hSH_1 => ?_)
  obtain ⟨hdH_1, erH_1, esH_1, egH_1⟩ := hpH_1
  rw [esH_1, egH_1] at hRH_1
  rw [erH_1]
  have hk := hdH_1
  have fk := hI.c hk
  have gk := hI.s (i := σ 15 k) (by omega)
  have jk := hJ.c hk
  have bk := zBit_r (σ 17 k) 1
  have hHB0 : zHB σ k := ⟨fk.2.2.1, fk.2.2.2.1.1, jk.2.2.2.2⟩
  have m7 := zMany_7 (zSet_r fk.2.2.1 (w := 1) (by decide))
  have mr := zMany_r (zSet_r fk.2.2.1 (w := 1) (by decide))
  refine lv_astore (lv' := [(4, .ref (g 6 k)), (0, .ref (g 0 0)), (1, .int (zI k)), (2, .int (zI 1)), (3, .int (zI q))]) hx hb dX4_join_5 hl (by decide) rfl (fun ls hl => ?_)
  refine lv_iload_n hx hb dX4_join_7 rfl (lv_at hl 3 rfl) ?_
  refine z_xmS (As := [.int (zI 1)]) (rest := []) ⟨hx, hb, hml, hown, hts⟩ (c_X4_demandWho l hfl D cI cO cL A eE mi sa g σ H_1 hRH_1 1 (by omega)) (va_cwS 1 hts gX4_join_X4_demandWho rfl rfl rfl (by decide +kernel) ⟨Nat.le_of_ble_eq_true rfl, Nat.le_of_ble_eq_true rfl⟩) hG hSH_1 rfl hl.1 rfl (Nat.le_of_ble_eq_true rfl) dX4_join_8 ⟨Nat.le_of_ble_eq_true rfl, Nat.le_of_ble_eq_true rfl⟩ (fun E ce q9 H1 locs1 hpx hRx hzx hkx hSx hcx hvx hclx => by
    obtain ⟨hn, rfl⟩ := hpx
    exact z_xout (px' := fun E => (zth_join σ k 1 q = 1 ∧ E = xIO) ∨ (zth_join σ k 1 q = 2 ∧ E = xIS)) hno hlocks hcx hvx hclx (Or.inl ⟨by unfold zth_join; (repeat' split) <;> omega, rfl⟩) hRx hSx ⟨Nat.le_of_ble_eq_true rfl, Nat.le_of_ble_eq_true rfl⟩) (fun rH_2 σH_2 gH_2 H_2 locsH_2 hpH_2 hRH_2 hzH_2 hkH_2 hSH_2 => ?_)
  obtain ⟨hdH_2, erH_2, esH_2, egH_2⟩ := hpH_2
  rw [esH_2, egH_2] at hRH_2
  rw [erH_2]
  refine lv_iload_n hx hb dX4_join_11 rfl (lv_at hl 3 rfl) ?_
  refine z_iconst hx hb dX4_join_12 ?_
  refine z_icmp_ne (tgt := 24) hx hb dX4_join_13 (by decide) (by omega) (fun c_3 => ?_) (fun c_3 => ?_)
  · refine lv_null hx hb dX4_join_24 ?_
    refine lv_astoreN (lv' := [(5, .null), (4, .ref (g 6 k)), (0, .ref (g 0 0)), (1, .int (zI k)), (2, .int (zI 1)), (3, .int (zI q))]) hx hb dX4_join_25 hl (by decide) rfl (fun ls hl => ?_)
    refine lv_aload hx hb dX4_join_27 (lv_at hl 1 rfl) ?_
    refine lv_iload_n hx hb dX4_join_29 rfl (lv_at hl 4 rfl) ?_
    refine z_cv (As := [.int (zI 1)]) (rest := []) ⟨hx, hb, hml, hown, hts⟩ (c_X0_hasIn l D cI cO cL A eE g σ H_2 hRH_2 k 1 (by omega) (by omega) (by omega)) (cwV 1 hts gX4_join_X0_hasIn rfl rfl rfl (by decide +kernel) ⟨Nat.le_of_ble_eq_true rfl, Nat.le_of_ble_eq_true rfl⟩) (zKK_mv D cI cO cL) (fun U _ hv => va_K.moved hv hK) (z_recv hK (hRH_2.c (i := k) (by show 0 ≤ k ∧ k < σ 14 0; omega)) rfl) rfl hl.1 rfl (Nat.le_of_ble_eq_true rfl) dX4_join_30 ⟨Nat.le_of_ble_eq_true rfl, Nat.le_of_ble_eq_true rfl⟩ (fun r_4 hr_4 => ?_)
    rw [hr_4]
    refine z_if_eq (tgt := 46) hx hb dX4_join_33 (by decide) (by omega) (fun c_5 => ?_) (fun c_5 => ?_)
    · refine lv_aloadN hx hb dX4_join_46 (lv_at hl 0 rfl) ?_
      refine lv_ifnullN (tgt := 77) hx hb dX4_join_48 (by decide) ?_
      refine lv_aload hx hb dX4_join_77 (lv_at hl 1 rfl) ?_
      refine lv_iload_n hx hb dX4_join_79 rfl (lv_at hl 4 rfl) ?_
      refine lv_aloadN hx hb dX4_join_80 (lv_at hl 0 rfl) ?_
      refine z_wx (As := [.int (zI 1), .null]) (rest := []) ⟨hx, hb, hml, hown, hts⟩ (c_X0_letIn_1 l D cI cO cL A eE g σ H_2 hRH_2 k (by omega)) (cwV 2 hts gX4_join_X0_letIn rfl rfl rfl (by decide +kernel) ⟨Nat.le_of_ble_eq_true rfl, Nat.le_of_ble_eq_true rfl⟩) hK hSH_2 (z_recv hK (hRH_2.c (i := k) (by show 0 ≤ k ∧ k < σ 14 0; omega)) rfl) rfl hl.1 rfl (Nat.le_of_ble_eq_true rfl) dX4_join_82 ⟨Nat.le_of_ble_eq_true rfl, Nat.le_of_ble_eq_true rfl⟩ (fun rH_6 σH_6 H_6 locsH_6 hpH_6 hRH_6 hzH_6 hSH_6 => ?_)
      obtain ⟨eH_6, qH_6⟩ := hpH_6
      rw [eH_6]
      rw [qH_6] at hRH_6
      have hHB : zHB (zup σ 17 k (zSet (σ 17 k) 1)) k := zHB_w hHB0 (by omega)
      refine lv_aload hx hb dX4_join_85 (lv_at hl 1 rfl) ?_
      refine z_cv (As := []) (rest := []) ⟨hx, hb, hml, hown, hts⟩ (c_X0_howManyIn l D cI cO cL A eE g (zup σ 17 k (zSet (σ 17 k) 1)) H_6 hRH_6 k (by show 0 ≤ k ∧ k < σ 14 0; omega) hHB) (cwV 0 hts gX4_join_X0_howManyIn rfl rfl rfl (by decide +kernel) ⟨Nat.le_of_ble_eq_true rfl, Nat.le_of_ble_eq_true rfl⟩) (zKK_mv D cI cO cL) (fun U _ hv => va_K.moved hv hK) (z_recv hK (hRH_6.c (i := k) (by show 0 ≤ k ∧ k < σ 14 0; omega)) rfl) rfl hl.1 rfl (Nat.le_of_ble_eq_true rfl) dX4_join_87 ⟨Nat.le_of_ble_eq_true rfl, Nat.le_of_ble_eq_true rfl⟩ (fun r_7 hr_7 => ?_)
      rw [hr_7]
      refine z_top (b := zMany (zSet (σ 17 k) 1)) (by rw [zup_s]) ?_
      refine z_iconst hx hb dX4_join_90 ?_
      refine z_icmp_ne (tgt := 100) hx hb dX4_join_91 (by decide) (by omega) (fun c_8 => ?_) (fun c_8 => ?_)
      · refine lv_aload hx hb dX4_join_100 (lv_at hl 1 rfl) ?_
        refine z_get hx hb hts in_X4_join_X0 hown hK (hRH_6.c (i := k) (by show 0 ≤ k ∧ k < σ 14 0; omega)) rfl 6 (by decide) lk_X4_join_122 rfl rfl dX4_join_102 ?_
        refine z_top (b := σ 20 k) (by rw [zup_t (t := 17) (t' := 20) (by decide)]) ?_
        exact vx_ret (W.widen (k := 4) (n := 24) (Nat.le_of_ble_eq_true rfl) (Nat.le_of_ble_eq_true rfl) (W.iret hx hb hr (z_endG (post := fun rv σ' g' => (zth_join σ k 1 q = 0 ∧ rv = some (.int (zI (zan_join σ k 1 q))) ∧ σ' = zst_join σ k 1 q) ∧ g' 0 0 = g 0 0) (σ' := zst_join σ k 1 q) (g' := g) (v := (some (.int (zI (σ 20 k))))) ⟨⟨(by unfold zth_join; (repeat' split) <;> omega), (congrArg (fun z => some (Value.int (zI z))) (show (σ 20 k) = zan_join σ k 1 q by unfold zan_join zst_join; rw [if_neg (by omega)]; rfl)), rfl⟩, rfl⟩ (hRH_6.eqT (fun a b => by unfold zst_join; rw [if_neg (by omega)]; rfl)) hSH_6) hSH_6.2.2 dX4_join_105))
      · refine lv_aload_n hx hb dX4_join_94 rfl (lv_at hl 2 rfl) ?_
        refine lv_aload hx hb dX4_join_95 (lv_at hl 1 rfl) ?_
        refine z_wx (As := [.ref (g 6 k)]) (rest := []) ⟨hx, hb, hml, hown, hts⟩ (c_X4_lookForSlot l D cI cO cL A eE g (zup σ 17 k (zSet (σ 17 k) 1)) H_6 hRH_6 k (zInv_17 hI (zSet_r fk.2.2.1 (w := 1) (by decide))) (by show 0 ≤ k ∧ k < σ 14 0; omega)) (cwV 1 hts gX4_join_X4_lookForSlot rfl rfl rfl (by decide +kernel) ⟨Nat.le_of_ble_eq_true rfl, Nat.le_of_ble_eq_true rfl⟩) hK hSH_6 (z_recv hK hRH_6.x rfl) rfl hl.1 rfl (Nat.le_of_ble_eq_true rfl) dX4_join_97 ⟨Nat.le_of_ble_eq_true rfl, Nat.le_of_ble_eq_true rfl⟩ (fun rH_9 σH_9 H_9 locsH_9 hpH_9 hRH_9 hzH_9 hSH_9 => ?_)
        obtain ⟨eH_9, qH_9⟩ := hpH_9
        rw [eH_9]
        rw [qH_9] at hRH_9
        refine lv_aload hx hb dX4_join_100 (lv_at hl 1 rfl) ?_
        refine z_get hx hb hts in_X4_join_X0 hown hK (hRH_9.c (i := k) (by show 0 ≤ k ∧ k < σ 14 0; omega)) rfl 6 (by decide) lk_X4_join_122 rfl rfl dX4_join_102 ?_
        exact vx_ret (W.widen (k := 4) (n := 24) (Nat.le_of_ble_eq_true rfl) (Nat.le_of_ble_eq_true rfl) (W.iret hx hb hr (z_endG (post := fun rv σ' g' => (zth_join σ k 1 q = 0 ∧ rv = some (.int (zI (zan_join σ k 1 q))) ∧ σ' = zst_join σ k 1 q) ∧ g' 0 0 = g 0 0) (σ' := zst_join σ k 1 q) (g' := g) (v := (some (.int (zI ((zLook (zup σ 17 k (zSet (σ 17 k) 1)) k) 20 k))))) ⟨⟨(by unfold zth_join; (repeat' split) <;> omega), (congrArg (fun z => some (Value.int (zI z))) (show ((zLook (zup σ 17 k (zSet (σ 17 k) 1)) k) 20 k) = zan_join σ k 1 q by unfold zan_join zst_join; rw [if_pos (by omega)]; rfl)), rfl⟩, rfl⟩ (hRH_9.eqT (fun a b => by unfold zst_join; rw [if_pos (by omega)]; rfl)) hSH_9) hSH_9.2.2 dX4_join_105))
    · exact z_throw (px := fun E => (zth_join σ k 1 q = 1 ∧ E = xIO) ∨ (zth_join σ k 1 q = 2 ∧ E = xIS)) (text := "in it already") hx hb hfl hno hlocks hown hts (hl.1.trans hml.symm) x_fit2 x_nms ck_X4_join_92 ci_X4_join_92 cw_X4_join_96 x_bad2 (by decide) (by decide) x_good2 hG hRH_2 hSH_2 (Or.inr (⟨by unfold zth_join; (repeat' split) <;> omega, rfl⟩)) dX4_join_36 dX4_join_39 dX4_join_40 dX4_join_42 dX4_join_45 ⟨Nat.le_of_ble_eq_true rfl, Nat.le_of_ble_eq_true rfl, Nat.le_of_ble_eq_true rfl, Nat.le_of_ble_eq_true rfl, Nat.le_of_ble_eq_true rfl, Nat.le_of_ble_eq_true rfl⟩
  · exact absurd c_3 (by decide)

theorem lk_X4_join_99 : Cond.fieldLink RX4 99 "HarbourPilotline$Pilot" "licence" "I" ∈ wsX4_join := by decide +kernel
theorem lk_X4_join_102 : Cond.fieldLink RX4 102 "HarbourPilotline$Conference" "ship" "LHarbourPilotline$Ship;" ∈ wsX4_join := by decide +kernel
theorem lk_X4_join_106 : Cond.fieldLink RX4 106 "HarbourPilotline$Ship" "tons" "I" ∈ wsX4_join := by decide +kernel
theorem in_X4_join_X1 : ∀ w ∈ wsX10, w ∈ wsX4_join := by decide +kernel
theorem in_X4_join_X2 : ∀ w ∈ wsX20, w ∈ wsX4_join := by decide +kernel
set_option maxRecDepth 100000 in
set_option maxHeartbeats 4000000 in
theorem c_X4_join (l : Launch) (hfl : l.stackTraces = false) (D : va_G) (cI cO cL : ClassId) (A : Nat → Prop) (eE mi : Nat) (sa : Nat → Nat) (g : zG) (σ : zT) (H0 : Heap) (hR : RX D cO A eE g σ H0) (k q : Int) (hI : zInv σ) (hJ : zInv2 σ) (hA : (-2147483648 ≤ k ∧ k < 2147483648) ∧ (-2147483648 ≤ q ∧ q < 2147483648)) : zXM l yX4_join wsX4_join ({ frames := 7, cells := 4, slots := 24, locals := 161 }) D cI cO cL A eE mi sa g σ [.ref (g 0 0), .int (zI k), .int (zI 2), .int (zI q)] H0 (fun rv σ' g' => (zth_join σ k 2 q = 0 ∧ rv = some (.int (zI (zan_join σ k 2 q))) ∧ σ' = zst_join σ k 2 q) ∧ g' 0 0 = g 0 0) (fun E => (zth_join σ k 2 q = 1 ∧ E = xIO) ∨ (zth_join σ k 2 q = 2 ∧ E = xIS)) := by
  refine vx_ofW (cc := cX4_join) (maxL := 6) (ret := (some .int)) (by decide) rfl ?_
  intro p e s m args below meth c s₁ B hml hno hv
  obtain ⟨rfl, hH, hG⟩ := hv
  subst hH
  have hK := hG.k
  have hx := B.exec
  have hb := B.bytes
  have hr := B.returns
  have hts := atoms_spec (ws := wsX4_join) B.pre
  have hown : s.vm.findClass RX4 = some m.cls := findClass_of_methodNamed B.named
  have hlocks := B.notSynchronized
  have hl := lv_entry ([.ref (g 0 0), .int (zI k), .int (zI 2), .int (zI q)]) (n := 6) (Nat.le_of_ble_eq_true rfl)
  rw [lg_entry_eq]
  generalize (lg_sl ([.ref (g 0 0), .int (zI k), .int (zI 2), .int (zI q)]) ++ List.replicate (6 - (lg_sl ([.ref (g 0 0), .int (zI k), .int (zI 2), .int (zI q)])).length) Slot.unset).toArray = ls at hl ⊢
  have hl : lv_has ls 6 [(0, .ref (g 0 0)), (1, .int (zI k)), (2, .int (zI 2)), (3, .int (zI q))] := hl
  have f0 := hI.r
  refine lv_aload_n hx hb dX4_join_0 rfl (lv_at hl 0 rfl) ?_
  refine lv_iload_n hx hb dX4_join_1 rfl (lv_at hl 1 rfl) ?_
  refine z_xmV (As := [.int (zI k)]) (rest := []) ⟨hx, hb, hml, hown, hts⟩ (c_X4_conferenceAt l hfl D cI cO cL A eE mi sa g σ s.heap hR k hI (by omega)) (cwV 1 hts gX4_join_X4_conferenceAt rfl rfl rfl (by decide +kernel) ⟨Nat.le_of_ble_eq_true rfl, Nat.le_of_ble_eq_true rfl⟩) hG va_S.rf (z_recv hK hR.x rfl) rfl hl.1 rfl (Nat.le_of_ble_eq_true rfl) dX4_join_2 ⟨Nat.le_of_ble_eq_true rfl, Nat.le_of_ble_eq_true rfl⟩ (fun E ce q9 H1 locs1 hpx hRx hzx hkx hSx hcx hvx hclx => by
    obtain ⟨hn, rfl⟩ := hpx
    exact z_xout (px' := fun E => (zth_join σ k 2 q = 1 ∧ E = xIO) ∨ (zth_join σ k 2 q = 2 ∧ E = xIS)) hno hlocks hcx hvx hclx (Or.inl ⟨by unfold zth_join; (repeat' split) <;> omega, rfl⟩) hRx hSx ⟨Nat.le_of_ble_eq_true rfl, Nat.le_of_ble_eq_true rfl⟩) (fun rH_1 σH_1 gH_1 H_1 locsH_1 hpH_1 hRH_1 hzH_1 hkH_1 hSH_1 => ?_)
  obtain ⟨hdH_1, erH_1, esH_1, egH_1⟩ := hpH_1
  rw [esH_1, egH_1] at hRH_1
  rw [erH_1]
  have hk := hdH_1
  have fk := hI.c hk
  have gk := hI.s (i := σ 15 k) (by omega)
  have jk := hJ.c hk
  have bk := zBit_r (σ 17 k) 2
  have hHB0 : zHB σ k := ⟨fk.2.2.1, fk.2.2.2.1.1, jk.2.2.2.2⟩
  have m7 := zMany_7 (zSet_r fk.2.2.1 (w := 2) (by decide))
  have mr := zMany_r (zSet_r fk.2.2.1 (w := 2) (by decide))
  refine lv_astore (lv' := [(4, .ref (g 6 k)), (0, .ref (g 0 0)), (1, .int (zI k)), (2, .int (zI 2)), (3, .int (zI q))]) hx hb dX4_join_5 hl (by decide) rfl (fun ls hl => ?_)
  refine lv_iload_n hx hb dX4_join_7 rfl (lv_at hl 3 rfl) ?_
  refine z_xmS (As := [.int (zI 2)]) (rest := []) ⟨hx, hb, hml, hown, hts⟩ (c_X4_demandWho l hfl D cI cO cL A eE mi sa g σ H_1 hRH_1 2 (by omega)) (va_cwS 1 hts gX4_join_X4_demandWho rfl rfl rfl (by decide +kernel) ⟨Nat.le_of_ble_eq_true rfl, Nat.le_of_ble_eq_true rfl⟩) hG hSH_1 rfl hl.1 rfl (Nat.le_of_ble_eq_true rfl) dX4_join_8 ⟨Nat.le_of_ble_eq_true rfl, Nat.le_of_ble_eq_true rfl⟩ (fun E ce q9 H1 locs1 hpx hRx hzx hkx hSx hcx hvx hclx => by
    obtain ⟨hn, rfl⟩ := hpx
    exact z_xout (px' := fun E => (zth_join σ k 2 q = 1 ∧ E = xIO) ∨ (zth_join σ k 2 q = 2 ∧ E = xIS)) hno hlocks hcx hvx hclx (Or.inl ⟨by unfold zth_join; (repeat' split) <;> omega, rfl⟩) hRx hSx ⟨Nat.le_of_ble_eq_true rfl, Nat.le_of_ble_eq_true rfl⟩) (fun rH_2 σH_2 gH_2 H_2 locsH_2 hpH_2 hRH_2 hzH_2 hkH_2 hSH_2 => ?_)
  obtain ⟨hdH_2, erH_2, esH_2, egH_2⟩ := hpH_2
  rw [esH_2, egH_2] at hRH_2
  rw [erH_2]
  refine lv_iload_n hx hb dX4_join_11 rfl (lv_at hl 3 rfl) ?_
  refine z_iconst hx hb dX4_join_12 ?_
  refine z_icmp_ne (tgt := 24) hx hb dX4_join_13 (by decide) (by omega) (fun c_3 => ?_) (fun c_3 => ?_)
  · exact absurd c_3 (by decide)
  · refine lv_aload_n hx hb dX4_join_16 rfl (lv_at hl 1 rfl) ?_
    refine lv_iload_n hx hb dX4_join_17 rfl (lv_at hl 4 rfl) ?_
    refine z_xmV (As := [.int (zI q)]) (rest := []) ⟨hx, hb, hml, hown, hts⟩ (c_X4_pilotAt l hfl D cI cO cL A eE mi sa g σ H_2 hRH_2 q hI (by omega)) (cwV 1 hts gX4_join_X4_pilotAt rfl rfl rfl (by decide +kernel) ⟨Nat.le_of_ble_eq_true rfl, Nat.le_of_ble_eq_true rfl⟩) hG hSH_2 (z_recv hK hRH_2.x rfl) rfl hl.1 rfl (Nat.le_of_ble_eq_true rfl) dX4_join_18 ⟨Nat.le_of_ble_eq_true rfl, Nat.le_of_ble_eq_true rfl⟩ (fun E ce q9 H1 locs1 hpx hRx hzx hkx hSx hcx hvx hclx => by
      obtain ⟨hn, rfl⟩ := hpx
      exact z_xout (px' := fun E => (zth_join σ k 2 q = 1 ∧ E = xIO) ∨ (zth_join σ k 2 q = 2 ∧ E = xIS)) hno hlocks hcx hvx hclx (Or.inl ⟨by unfold zth_join; (repeat' split) <;> omega, rfl⟩) hRx hSx ⟨Nat.le_of_ble_eq_true rfl, Nat.le_of_ble_eq_true rfl⟩) (fun rH_4 σH_4 gH_4 H_4 locsH_4 hpH_4 hRH_4 hzH_4 hkH_4 hSH_4 => ?_)
    obtain ⟨hdH_4, erH_4, esH_4, egH_4⟩ := hpH_4
    rw [esH_4, egH_4] at hRH_4
    rw [erH_4]
    have hq := hdH_4
    have pq := hI.p hq
    refine lv_goto (tgt := 25) hx hb dX4_join_21 (by decide) ?_
    refine lv_astore (lv' := [(5, .ref (g 5 q)), (4, .ref (g 6 k)), (0, .ref (g 0 0)), (1, .int (zI k)), (2, .int (zI 2)), (3, .int (zI q))]) hx hb dX4_join_25 hl (by decide) rfl (fun ls hl => ?_)
    refine lv_aload hx hb dX4_join_27 (lv_at hl 1 rfl) ?_
    refine lv_iload_n hx hb dX4_join_29 rfl (lv_at hl 4 rfl) ?_
    refine z_cv (As := [.int (zI 2)]) (rest := []) ⟨hx, hb, hml, hown, hts⟩ (c_X0_hasIn l D cI cO cL A eE g σ H_4 hRH_4 k 2 (by omega) (by omega) (by omega)) (cwV 1 hts gX4_join_X0_hasIn rfl rfl rfl (by decide +kernel) ⟨Nat.le_of_ble_eq_true rfl, Nat.le_of_ble_eq_true rfl⟩) (zKK_mv D cI cO cL) (fun U _ hv => va_K.moved hv hK) (z_recv hK (hRH_4.c (i := k) (by show 0 ≤ k ∧ k < σ 14 0; omega)) rfl) rfl hl.1 rfl (Nat.le_of_ble_eq_true rfl) dX4_join_30 ⟨Nat.le_of_ble_eq_true rfl, Nat.le_of_ble_eq_true rfl⟩ (fun r_5 hr_5 => ?_)
    rw [hr_5]
    refine z_if_eq (tgt := 46) hx hb dX4_join_33 (by decide) (by omega) (fun c_6 => ?_) (fun c_6 => ?_)
    · refine lv_aload hx hb dX4_join_46 (lv_at hl 0 rfl) ?_
      refine lv_ifnull hx hb dX4_join_48 ?_
      refine lv_aload hx hb dX4_join_51 (lv_at hl 0 rfl) ?_
      refine z_get hx hb hts in_X4_join_X1 hown hK (hRH_4.p (i := q) (by show 0 ≤ q ∧ q < σ 11 0; omega)) rfl 1 (by decide) lk_X4_join_99 rfl rfl dX4_join_53 ?_
      refine lv_aload hx hb dX4_join_56 (lv_at hl 1 rfl) ?_
      refine z_get hx hb hts in_X4_join_X0 hown hK (hRH_4.c (i := k) (by show 0 ≤ k ∧ k < σ 14 0; omega)) rfl 0 (by decide) lk_X4_join_102 rfl rfl dX4_join_58 ?_
      refine z_get hx hb hts in_X4_join_X2 hown hK (hRH_4.s (i := (σ 15 k)) (by show 0 ≤ (σ 15 k) ∧ (σ 15 k) < σ 5 0; omega)) rfl 2 (by decide) lk_X4_join_106 rfl rfl dX4_join_61 ?_
      refine z_icmp_ge (tgt := 77) hx hb dX4_join_64 (by decide) (by omega) (fun c_7 => ?_) (fun c_7 => ?_)
      · refine lv_aload hx hb dX4_join_77 (lv_at hl 1 rfl) ?_
        refine lv_iload_n hx hb dX4_join_79 rfl (lv_at hl 4 rfl) ?_
        refine lv_aload hx hb dX4_join_80 (lv_at hl 0 rfl) ?_
        refine z_wx (As := [.int (zI 2), .ref (g 5 q)]) (rest := []) ⟨hx, hb, hml, hown, hts⟩ (c_X0_letIn l D cI cO cL A eE g σ H_4 hRH_4 k q (by omega) (by omega)) (cwV 2 hts gX4_join_X0_letIn rfl rfl rfl (by decide +kernel) ⟨Nat.le_of_ble_eq_true rfl, Nat.le_of_ble_eq_true rfl⟩) hK hSH_4 (z_recv hK (hRH_4.c (i := k) (by show 0 ≤ k ∧ k < σ 14 0; omega)) rfl) rfl hl.1 rfl (Nat.le_of_ble_eq_true rfl) dX4_join_82 ⟨Nat.le_of_ble_eq_true rfl, Nat.le_of_ble_eq_true rfl⟩ (fun rH_8 σH_8 H_8 locsH_8 hpH_8 hRH_8 hzH_8 hSH_8 => ?_)
        obtain ⟨eH_8, qH_8⟩ := hpH_8
        rw [eH_8]
        rw [qH_8] at hRH_8
        have hHB : zHB (zup (zup σ 17 k (zSet (σ 17 k) 2)) 18 k q) k := zHB_2 hHB0 (by omega)
        refine lv_aload hx hb dX4_join_85 (lv_at hl 1 rfl) ?_
        refine z_cv (As := []) (rest := []) ⟨hx, hb, hml, hown, hts⟩ (c_X0_howManyIn l D cI cO cL A eE g (zup (zup σ 17 k (zSet (σ 17 k) 2)) 18 k q) H_8 hRH_8 k (by show 0 ≤ k ∧ k < σ 14 0; omega) hHB) (cwV 0 hts gX4_join_X0_howManyIn rfl rfl rfl (by decide +kernel) ⟨Nat.le_of_ble_eq_true rfl, Nat.le_of_ble_eq_true rfl⟩) (zKK_mv D cI cO cL) (fun U _ hv => va_K.moved hv hK) (z_recv hK (hRH_8.c (i := k) (by show 0 ≤ k ∧ k < σ 14 0; omega)) rfl) rfl hl.1 rfl (Nat.le_of_ble_eq_true rfl) dX4_join_87 ⟨Nat.le_of_ble_eq_true rfl, Nat.le_of_ble_eq_true rfl⟩ (fun r_9 hr_9 => ?_)
        rw [hr_9]
        refine z_top (b := zMany (zSet (σ 17 k) 2)) (by rw [zup_t (t := 18) (t' := 17) (by decide), zup_s]) ?_
        refine z_iconst hx hb dX4_join_90 ?_
        refine z_icmp_ne (tgt := 100) hx hb dX4_join_91 (by decide) (by omega) (fun c_10 => ?_) (fun c_10 => ?_)
        · refine lv_aload hx hb dX4_join_100 (lv_at hl 1 rfl) ?_
          refine z_get hx hb hts in_X4_join_X0 hown hK (hRH_8.c (i := k) (by show 0 ≤ k ∧ k < σ 14 0; omega)) rfl 6 (by decide) lk_X4_join_122 rfl rfl dX4_join_102 ?_
          refine z_top (b := σ 20 k) (by rw [zup_t (t := 18) (t' := 20) (by decide), zup_t (t := 17) (t' := 20) (by decide)]) ?_
          exact vx_ret (W.widen (k := 4) (n := 24) (Nat.le_of_ble_eq_true rfl) (Nat.le_of_ble_eq_true rfl) (W.iret hx hb hr (z_endG (post := fun rv σ' g' => (zth_join σ k 2 q = 0 ∧ rv = some (.int (zI (zan_join σ k 2 q))) ∧ σ' = zst_join σ k 2 q) ∧ g' 0 0 = g 0 0) (σ' := zst_join σ k 2 q) (g' := g) (v := (some (.int (zI (σ 20 k))))) ⟨⟨(by unfold zth_join; (repeat' split) <;> omega), (congrArg (fun z => some (Value.int (zI z))) (show (σ 20 k) = zan_join σ k 2 q by unfold zan_join zst_join; rw [if_neg (by omega)]; rfl)), rfl⟩, rfl⟩ (hRH_8.eqT (fun a b => by unfold zst_join; rw [if_neg (by omega)]; rfl)) hSH_8) hSH_8.2.2 dX4_join_105))
        · refine lv_aload_n hx hb dX4_join_94 rfl (lv_at hl 2 rfl) ?_
          refine lv_aload hx hb dX4_join_95 (lv_at hl 1 rfl) ?_
          refine z_wx (As := [.ref (g 6 k)]) (rest := []) ⟨hx, hb, hml, hown, hts⟩ (c_X4_lookForSlot l D cI cO cL A eE g (zup (zup σ 17 k (zSet (σ 17 k) 2)) 18 k q) H_8 hRH_8 k (zInv_18 (zInv_17 hI (zSet_r fk.2.2.1 (w := 2) (by decide))) (by show -1 ≤ q ∧ q < σ 11 0; omega)) (by show 0 ≤ k ∧ k < σ 14 0; omega)) (cwV 1 hts gX4_join_X4_lookForSlot rfl rfl rfl (by decide +kernel) ⟨Nat.le_of_ble_eq_true rfl, Nat.le_of_ble_eq_true rfl⟩) hK hSH_8 (z_recv hK hRH_8.x rfl) rfl hl.1 rfl (Nat.le_of_ble_eq_true rfl) dX4_join_97 ⟨Nat.le_of_ble_eq_true rfl, Nat.le_of_ble_eq_true rfl⟩ (fun rH_11 σH_11 H_11 locsH_11 hpH_11 hRH_11 hzH_11 hSH_11 => ?_)
          obtain ⟨eH_11, qH_11⟩ := hpH_11
          rw [eH_11]
          rw [qH_11] at hRH_11
          refine lv_aload hx hb dX4_join_100 (lv_at hl 1 rfl) ?_
          refine z_get hx hb hts in_X4_join_X0 hown hK (hRH_11.c (i := k) (by show 0 ≤ k ∧ k < σ 14 0; omega)) rfl 6 (by decide) lk_X4_join_122 rfl rfl dX4_join_102 ?_
          exact vx_ret (W.widen (k := 4) (n := 24) (Nat.le_of_ble_eq_true rfl) (Nat.le_of_ble_eq_true rfl) (W.iret hx hb hr (z_endG (post := fun rv σ' g' => (zth_join σ k 2 q = 0 ∧ rv = some (.int (zI (zan_join σ k 2 q))) ∧ σ' = zst_join σ k 2 q) ∧ g' 0 0 = g 0 0) (σ' := zst_join σ k 2 q) (g' := g) (v := (some (.int (zI ((zLook (zup (zup σ 17 k (zSet (σ 17 k) 2)) 18 k q) k) 20 k))))) ⟨⟨(by unfold zth_join; (repeat' split) <;> omega), (congrArg (fun z => some (Value.int (zI z))) (show ((zLook (zup (zup σ 17 k (zSet (σ 17 k) 2)) 18 k q) k) 20 k) = zan_join σ k 2 q by unfold zan_join zst_join; rw [if_pos (by omega)]; rfl)), rfl⟩, rfl⟩ (hRH_11.eqT (fun a b => by unfold zst_join; rw [if_pos (by omega)]; rfl)) hSH_11) hSH_11.2.2 dX4_join_105))
      · exact z_throw (px := fun E => (zth_join σ k 2 q = 1 ∧ E = xIO) ∨ (zth_join σ k 2 q = 2 ∧ E = xIS)) (text := "the licence does not do") hx hb hfl hno hlocks hown hts (hl.1.trans hml.symm) x_fit2 x_nms ck_X4_join_92 ci_X4_join_92 cw_X4_join_96 x_bad2 (by decide) (by decide) x_good2 hG hRH_4 hSH_4 (Or.inr (⟨by unfold zth_join; (repeat' split) <;> omega, rfl⟩)) dX4_join_67 dX4_join_70 dX4_join_71 dX4_join_73 dX4_join_76 ⟨Nat.le_of_ble_eq_true rfl, Nat.le_of_ble_eq_true rfl, Nat.le_of_ble_eq_true rfl, Nat.le_of_ble_eq_true rfl, Nat.le_of_ble_eq_true rfl, Nat.le_of_ble_eq_true rfl⟩
    · exact z_throw (px := fun E => (zth_join σ k 2 q = 1 ∧ E = xIO) ∨ (zth_join σ k 2 q = 2 ∧ E = xIS)) (text := "in it already") hx hb hfl hno hlocks hown hts (hl.1.trans hml.symm) x_fit2 x_nms ck_X4_join_92 ci_X4_join_92 cw_X4_join_96 x_bad2 (by decide) (by decide) x_good2 hG hRH_4 hSH_4 (Or.inr (⟨by unfold zth_join; (repeat' split) <;> omega, rfl⟩)) dX4_join_36 dX4_join_39 dX4_join_40 dX4_join_42 dX4_join_45 ⟨Nat.le_of_ble_eq_true rfl, Nat.le_of_ble_eq_true rfl, Nat.le_of_ble_eq_true rfl, Nat.le_of_ble_eq_true rfl, Nat.le_of_ble_eq_true rfl, Nat.le_of_ble_eq_true rfl⟩

set_option maxRecDepth 100000 in
set_option maxHeartbeats 4000000 in
theorem c_X4_join_x (l : Launch) (hfl : l.stackTraces = false) (D : va_G) (cI cO cL : ClassId) (A : Nat → Prop) (eE mi : Nat) (sa : Nat → Nat) (g : zG) (σ : zT) (H0 : Heap) (hR : RX D cO A eE g σ H0) (k w q : Int) (hI : zInv σ) (hJ : zInv2 σ) (hA : (-2147483648 ≤ k ∧ k < 2147483648) ∧ (-2147483648 ≤ w ∧ w < 2147483648) ∧ (-2147483648 ≤ q ∧ q < 2147483648)) (hw : ¬ (0 ≤ w ∧ w ≤ 2)) : zXM l yX4_join wsX4_join ({ frames := 7, cells := 4, slots := 24, locals := 161 }) D cI cO cL A eE mi sa g σ [.ref (g 0 0), .int (zI k), .int (zI w), .int (zI q)] H0 (fun rv σ' g' => (zth_join σ k w q = 0 ∧ rv = some (.int (zI (zan_join σ k w q))) ∧ σ' = zst_join σ k w q) ∧ g' 0 0 = g 0 0) (fun E => (zth_join σ k w q = 1 ∧ E = xIO) ∨ (zth_join σ k w q = 2 ∧ E = xIS)) := by
  refine vx_ofW (cc := cX4_join) (maxL := 6) (ret := (some .int)) (by decide) rfl ?_
  intro p e s m args below meth c s₁ B hml hno hv
  obtain ⟨rfl, hH, hG⟩ := hv
  subst hH
  have hK := hG.k
  have hx := B.exec
  have hb := B.bytes
  have hr := B.returns
  have hts := atoms_spec (ws := wsX4_join) B.pre
  have hown : s.vm.findClass RX4 = some m.cls := findClass_of_methodNamed B.named
  have hlocks := B.notSynchronized
  have hl := lv_entry ([.ref (g 0 0), .int (zI k), .int (zI w), .int (zI q)]) (n := 6) (Nat.le_of_ble_eq_true rfl)
  rw [lg_entry_eq]
  generalize (lg_sl ([.ref (g 0 0), .int (zI k), .int (zI w), .int (zI q)]) ++ List.replicate (6 - (lg_sl ([.ref (g 0 0), .int (zI k), .int (zI w), .int (zI q)])).length) Slot.unset).toArray = ls at hl ⊢
  have hl : lv_has ls 6 [(0, .ref (g 0 0)), (1, .int (zI k)), (2, .int (zI w)), (3, .int (zI q))] := hl
  have f0 := hI.r
  refine lv_aload_n hx hb dX4_join_0 rfl (lv_at hl 0 rfl) ?_
  refine lv_iload_n hx hb dX4_join_1 rfl (lv_at hl 1 rfl) ?_
  refine z_xmV (As := [.int (zI k)]) (rest := []) ⟨hx, hb, hml, hown, hts⟩ (c_X4_conferenceAt l hfl D cI cO cL A eE mi sa g σ s.heap hR k hI (by omega)) (cwV 1 hts gX4_join_X4_conferenceAt rfl rfl rfl (by decide +kernel) ⟨Nat.le_of_ble_eq_true rfl, Nat.le_of_ble_eq_true rfl⟩) hG va_S.rf (z_recv hK hR.x rfl) rfl hl.1 rfl (Nat.le_of_ble_eq_true rfl) dX4_join_2 ⟨Nat.le_of_ble_eq_true rfl, Nat.le_of_ble_eq_true rfl⟩ (fun E ce q9 H1 locs1 hpx hRx hzx hkx hSx hcx hvx hclx => by
    obtain ⟨hn, rfl⟩ := hpx
    exact z_xout (px' := fun E => (zth_join σ k w q = 1 ∧ E = xIO) ∨ (zth_join σ k w q = 2 ∧ E = xIS)) hno hlocks hcx hvx hclx (Or.inl ⟨by unfold zth_join; (repeat' split) <;> omega, rfl⟩) hRx hSx ⟨Nat.le_of_ble_eq_true rfl, Nat.le_of_ble_eq_true rfl⟩) (fun rH_1 σH_1 gH_1 H_1 locsH_1 hpH_1 hRH_1 hzH_1 hkH_1 hSH_1 => ?_)
  obtain ⟨hdH_1, erH_1, esH_1, egH_1⟩ := hpH_1
  rw [esH_1, egH_1] at hRH_1
  rw [erH_1]
  refine lv_astore (lv' := [(4, .ref (g 6 k)), (0, .ref (g 0 0)), (1, .int (zI k)), (2, .int (zI w)), (3, .int (zI q))]) hx hb dX4_join_5 hl (by decide) rfl (fun ls hl => ?_)
  refine lv_iload_n hx hb dX4_join_7 rfl (lv_at hl 3 rfl) ?_
  refine z_xmS (As := [.int (zI w)]) (rest := []) ⟨hx, hb, hml, hown, hts⟩ (c_X4_demandWho l hfl D cI cO cL A eE mi sa g σ H_1 hRH_1 w (by omega)) (va_cwS 1 hts gX4_join_X4_demandWho rfl rfl rfl (by decide +kernel) ⟨Nat.le_of_ble_eq_true rfl, Nat.le_of_ble_eq_true rfl⟩) hG hSH_1 rfl hl.1 rfl (Nat.le_of_ble_eq_true rfl) dX4_join_8 ⟨Nat.le_of_ble_eq_true rfl, Nat.le_of_ble_eq_true rfl⟩ (fun E ce q9 H1 locs1 hpx hRx hzx hkx hSx hcx hvx hclx => by
    obtain ⟨hn, rfl⟩ := hpx
    exact z_xout (px' := fun E => (zth_join σ k w q = 1 ∧ E = xIO) ∨ (zth_join σ k w q = 2 ∧ E = xIS)) hno hlocks hcx hvx hclx (Or.inl ⟨by unfold zth_join; (repeat' split) <;> omega, rfl⟩) hRx hSx ⟨Nat.le_of_ble_eq_true rfl, Nat.le_of_ble_eq_true rfl⟩) (fun rH_2 σH_2 gH_2 H_2 locsH_2 hpH_2 hRH_2 hzH_2 hkH_2 hSH_2 => ?_)
  obtain ⟨hdH_2, erH_2, esH_2, egH_2⟩ := hpH_2
  rw [esH_2, egH_2] at hRH_2
  rw [erH_2]
  exfalso; omega

theorem c_X4_join_all (l : Launch) (hfl : l.stackTraces = false) (D : va_G) (cI cO cL : ClassId) (A : Nat → Prop) (eE mi : Nat) (sa : Nat → Nat) (g : zG) (σ : zT) (H0 : Heap) (hR : RX D cO A eE g σ H0) (k w q : Int) (hI : zInv σ) (hJ : zInv2 σ) (hA : (-2147483648 ≤ k ∧ k < 2147483648) ∧ (-2147483648 ≤ w ∧ w < 2147483648) ∧ (-2147483648 ≤ q ∧ q < 2147483648)) : zXM l yX4_join wsX4_join ({ frames := 7, cells := 4, slots := 24, locals := 161 }) D cI cO cL A eE mi sa g σ [.ref (g 0 0), .int (zI k), .int (zI w), .int (zI q)] H0 (fun rv σ' g' => (zth_join σ k w q = 0 ∧ rv = some (.int (zI (zan_join σ k w q))) ∧ σ' = zst_join σ k w q) ∧ g' 0 0 = g 0 0) (fun E => (zth_join σ k w q = 1 ∧ E = xIO) ∨ (zth_join σ k w q = 2 ∧ E = xIS)) := by
  by_cases h0 : w = 0
  · subst h0; exact c_X4_join_0 l hfl D cI cO cL A eE mi sa g σ H0 hR k q hI hJ (by omega)
  by_cases h1 : w = 1
  · subst h1; exact c_X4_join_1 l hfl D cI cO cL A eE mi sa g σ H0 hR k q hI hJ (by omega)
  by_cases h2 : w = 2
  · subst h2; exact c_X4_join l hfl D cI cO cL A eE mi sa g σ H0 hR k q hI hJ (by omega)
  exact c_X4_join_x l hfl D cI cO cL A eE mi sa g σ H0 hR k w q hI hJ hA (by omega)
