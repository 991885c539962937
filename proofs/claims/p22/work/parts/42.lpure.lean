/-! the law's own methods that only read -/
set_option maxRecDepth 100000 in
set_option maxHeartbeats 4000000 in
theorem c_L_shipOf (l : Launch) (D : va_G) (cI cO cL : ClassId) (H0 : Heap) (v : Int) (hv : 0 ≤ v ∧ v < 2147483648) : zPM l yL_shipOf wsL_shipOf ({ frames := 0, cells := 0, slots := 0, locals := 0 }) (zKK D cI cO cL) [.int (zI v)] H0 (fun r => r = .int (zI (v % 8))) := by
  refine Met.ofW (cc := cL_shipOf) (maxL := 1) (ret := (some .int)) (by decide) rfl ?_
  intro p e s m args below meth c s₁ B hml hv
  obtain ⟨rfl, hH, hK⟩ := hv
  subst hH
  have hx := B.exec
  have hb := B.bytes
  have hr := B.returns
  have hts := atoms_spec (ws := wsL_shipOf) B.pre
  have hown : s.vm.findClass RL = some m.cls := findClass_of_methodNamed B.named
  have hlocks := B.notSynchronized
  have hl := lv_entry ([.int (zI v)]) (n := 1) (Nat.le_of_ble_eq_true rfl)
  rw [lg_entry_eq]
  generalize (lg_sl ([.int (zI v)]) ++ List.replicate (1 - (lg_sl ([.int (zI v)])).length) Slot.unset).toArray = ls at hl ⊢
  have hl : lv_has ls 1 [(0, .int (zI v))] := hl
  refine lv_iload_n hx hb dL_shipOf_0 rfl (lv_at hl 0 rfl) ?_
  refine z_bipush hx hb dL_shipOf_1 (by decide +kernel) ?_
  refine l_and hx hb 3 (by decide +kernel) dL_shipOf_3 (by omega) ?_
  refine z_top (b := v % 8) rfl ?_
  exact W.iret hx hb hr (z_end (post := fun r => r = .int (zI (v % 8))) (rfl)) (fun _ h => nomatch h) dL_shipOf_4

set_option maxRecDepth 100000 in
set_option maxHeartbeats 4000000 in
theorem c_L_pilotOf (l : Launch) (D : va_G) (cI cO cL : ClassId) (H0 : Heap) (v : Int) (hv : 0 ≤ v ∧ v < 2147483648) : zPM l yL_pilotOf wsL_pilotOf ({ frames := 0, cells := 0, slots := 0, locals := 0 }) (zKK D cI cO cL) [.int (zI v)] H0 (fun r => r = .int (zI (v / 64 % 16 - 1))) := by
  refine Met.ofW (cc := cL_pilotOf) (maxL := 1) (ret := (some .int)) (by decide) rfl ?_
  intro p e s m args below meth c s₁ B hml hv
  obtain ⟨rfl, hH, hK⟩ := hv
  subst hH
  have hx := B.exec
  have hb := B.bytes
  have hr := B.returns
  have hts := atoms_spec (ws := wsL_pilotOf) B.pre
  have hown : s.vm.findClass RL = some m.cls := findClass_of_methodNamed B.named
  have hlocks := B.notSynchronized
  have hl := lv_entry ([.int (zI v)]) (n := 1) (Nat.le_of_ble_eq_true rfl)
  rw [lg_entry_eq]
  generalize (lg_sl ([.int (zI v)]) ++ List.replicate (1 - (lg_sl ([.int (zI v)])).length) Slot.unset).toArray = ls at hl ⊢
  have hl : lv_has ls 1 [(0, .int (zI v))] := hl
  refine lv_iload_n hx hb dL_pilotOf_0 rfl (lv_at hl 0 rfl) ?_
  refine z_bipush hx hb dL_pilotOf_1 (by decide +kernel) ?_
  refine l_shr hx hb 6 (by omega) dL_pilotOf_3 (by omega) ?_
  refine z_top (b := v / 64) rfl ?_
  refine z_bipush hx hb dL_pilotOf_4 (by decide +kernel) ?_
  refine l_and hx hb 4 (by decide +kernel) dL_pilotOf_6 (by omega) ?_
  refine z_top (b := (v / 64) % 16) rfl ?_
  refine z_iconst hx hb dL_pilotOf_7 ?_
  refine z_isub hx hb dL_pilotOf_8 ?_
  exact W.iret hx hb hr (z_end (post := fun r => r = .int (zI (v / 64 % 16 - 1))) (z_eq (a := (((v / 64) % 16) - 1)) (b := v / 64 % 16 - 1) (by omega))) (fun _ h => nomatch h) dL_pilotOf_9

set_option maxRecDepth 100000 in
set_option maxHeartbeats 4000000 in
theorem c_L_stateOf (l : Launch) (D : va_G) (cI cO cL : ClassId) (H0 : Heap) (v : Int) (hv : 0 ≤ v ∧ v < 2147483648) : zPM l yL_stateOf wsL_stateOf ({ frames := 0, cells := 0, slots := 0, locals := 0 }) (zKK D cI cO cL) [.int (zI v)] H0 (fun r => r = .int (zI (v / 1024))) := by
  refine Met.ofW (cc := cL_stateOf) (maxL := 1) (ret := (some .int)) (by decide) rfl ?_
  intro p e s m args below meth c s₁ B hml hv
  obtain ⟨rfl, hH, hK⟩ := hv
  subst hH
  have hx := B.exec
  have hb := B.bytes
  have hr := B.returns
  have hts := atoms_spec (ws := wsL_stateOf) B.pre
  have hown : s.vm.findClass RL = some m.cls := findClass_of_methodNamed B.named
  have hlocks := B.notSynchronized
  have hl := lv_entry ([.int (zI v)]) (n := 1) (Nat.le_of_ble_eq_true rfl)
  rw [lg_entry_eq]
  generalize (lg_sl ([.int (zI v)]) ++ List.replicate (1 - (lg_sl ([.int (zI v)])).length) Slot.unset).toArray = ls at hl ⊢
  have hl : lv_has ls 1 [(0, .int (zI v))] := hl
  refine lv_iload_n hx hb dL_stateOf_0 rfl (lv_at hl 0 rfl) ?_
  refine z_bipush hx hb dL_stateOf_1 (by decide +kernel) ?_
  refine l_shr hx hb 10 (by omega) dL_stateOf_3 (by omega) ?_
  refine z_top (b := v / 1024) rfl ?_
  exact W.iret hx hb hr (z_end (post := fun r => r = .int (zI (v / 1024))) (rfl)) (fun _ h => nomatch h) dL_stateOf_4

set_option maxRecDepth 100000 in
set_option maxHeartbeats 4000000 in
theorem c_L_draught (l : Launch) (D : va_G) (cI cO cL : ClassId) (H0 : Heap) (v : Int) (hv : 0 ≤ v ∧ v < 2147483648) : zPM l yL_draught wsL_draught ({ frames := 0, cells := 0, slots := 0, locals := 0 }) (zKK D cI cO cL) [.int (zI v)] H0 (fun r => r = .int (zI (v % 512))) := by
  refine Met.ofW (cc := cL_draught) (maxL := 1) (ret := (some .int)) (by decide) rfl ?_
  intro p e s m args below meth c s₁ B hml hv
  obtain ⟨rfl, hH, hK⟩ := hv
  subst hH
  have hx := B.exec
  have hb := B.bytes
  have hr := B.returns
  have hts := atoms_spec (ws := wsL_draught) B.pre
  have hown : s.vm.findClass RL = some m.cls := findClass_of_methodNamed B.named
  have hlocks := B.notSynchronized
  have hl := lv_entry ([.int (zI v)]) (n := 1) (Nat.le_of_ble_eq_true rfl)
  rw [lg_entry_eq]
  generalize (lg_sl ([.int (zI v)]) ++ List.replicate (1 - (lg_sl ([.int (zI v)])).length) Slot.unset).toArray = ls at hl ⊢
  have hl : lv_has ls 1 [(0, .int (zI v))] := hl
  refine lv_iload_n hx hb dL_draught_0 rfl (lv_at hl 0 rfl) ?_
  refine z_sipush hx hb dL_draught_1 (by decide +kernel) ?_
  refine l_and hx hb 9 (by decide +kernel) dL_draught_4 (by omega) ?_
  refine z_top (b := v % 512) rfl ?_
  exact W.iret hx hb hr (z_end (post := fun r => r = .int (zI (v % 512))) (rfl)) (fun _ h => nomatch h) dL_draught_5

set_option maxRecDepth 100000 in
set_option maxHeartbeats 4000000 in
theorem c_L_takes (l : Launch) (D : va_G) (cI cO cL : ClassId) (H0 : Heap) (v : Int) (hv : 0 ≤ v ∧ v < 2147483648) : zPM l yL_takes wsL_takes ({ frames := 0, cells := 0, slots := 0, locals := 0 }) (zKK D cI cO cL) [.int (zI v)] H0 (fun r => r = .int (zI (v / 512 % 128))) := by
  refine Met.ofW (cc := cL_takes) (maxL := 1) (ret := (some .int)) (by decide) rfl ?_
  intro p e s m args below meth c s₁ B hml hv
  obtain ⟨rfl, hH, hK⟩ := hv
  subst hH
  have hx := B.exec
  have hb := B.bytes
  have hr := B.returns
  have hts := atoms_spec (ws := wsL_takes) B.pre
  have hown : s.vm.findClass RL = some m.cls := findClass_of_methodNamed B.named
  have hlocks := B.notSynchronized
  have hl := lv_entry ([.int (zI v)]) (n := 1) (Nat.le_of_ble_eq_true rfl)
  rw [lg_entry_eq]
  generalize (lg_sl ([.int (zI v)]) ++ List.replicate (1 - (lg_sl ([.int (zI v)])).length) Slot.unset).toArray = ls at hl ⊢
  have hl : lv_has ls 1 [(0, .int (zI v))] := hl
  refine lv_iload_n hx hb dL_takes_0 rfl (lv_at hl 0 rfl) ?_
  refine z_bipush hx hb dL_takes_1 (by decide +kernel) ?_
  refine l_shr hx hb 9 (by omega) dL_takes_3 (by omega) ?_
  refine z_top (b := v / 512) rfl ?_
  refine z_bipush hx hb dL_takes_4 (by decide +kernel) ?_
  refine l_and hx hb 7 (by decide +kernel) dL_takes_6 (by omega) ?_
  refine z_top (b := (v / 512) % 128) rfl ?_
  exact W.iret hx hb hr (z_end (post := fun r => r = .int (zI (v / 512 % 128))) (z_eq (a := ((v / 512) % 128)) (b := v / 512 % 128) (by omega))) (fun _ h => nomatch h) dL_takes_7

set_option maxRecDepth 100000 in
set_option maxHeartbeats 4000000 in
theorem c_L_needs (l : Launch) (D : va_G) (cI cO cL : ClassId) (H0 : Heap) (v : Int) (hv : 0 ≤ v ∧ v < 2147483648) : zPM l yL_needs wsL_needs ({ frames := 0, cells := 0, slots := 0, locals := 0 }) (zKK D cI cO cL) [.int (zI v)] H0 (fun r => r = .int (zI (v / 65536))) := by
  refine Met.ofW (cc := cL_needs) (maxL := 1) (ret := (some .int)) (by decide) rfl ?_
  intro p e s m args below meth c s₁ B hml hv
  obtain ⟨rfl, hH, hK⟩ := hv
  subst hH
  have hx := B.exec
  have hb := B.bytes
  have hr := B.returns
  have hts := atoms_spec (ws := wsL_needs) B.pre
  have hown : s.vm.findClass RL = some m.cls := findClass_of_methodNamed B.named
  have hlocks := B.notSynchronized
  have hl := lv_entry ([.int (zI v)]) (n := 1) (Nat.le_of_ble_eq_true rfl)
  rw [lg_entry_eq]
  generalize (lg_sl ([.int (zI v)]) ++ List.replicate (1 - (lg_sl ([.int (zI v)])).length) Slot.unset).toArray = ls at hl ⊢
  have hl : lv_has ls 1 [(0, .int (zI v))] := hl
  refine lv_iload_n hx hb dL_needs_0 rfl (lv_at hl 0 rfl) ?_
  refine z_bipush hx hb dL_needs_1 (by decide +kernel) ?_
  refine l_shr hx hb 16 (by omega) dL_needs_3 (by omega) ?_
  refine z_top (b := v / 65536) rfl ?_
  exact W.iret hx hb hr (z_end (post := fun r => r = .int (zI (v / 65536))) (rfl)) (fun _ h => nomatch h) dL_needs_4

theorem zLow (a : Int) : ∃ z : Int, ((zI a).toUInt32 >>> ((zI 1).toUInt32 &&& Int32.toUInt32 31)).toInt32 = zI z ∧ 0 ≤ z ∧ z < 2147483648 := by
  refine ⟨(((zI a).toUInt32 >>> ((zI 1).toUInt32 &&& Int32.toUInt32 31)).toInt32.toBitVec.toNat : Nat), ?_, by omega, ?_⟩
  · rw [← zI_nat]
    apply Int32.toBitVec_inj.mp
    apply BitVec.eq_of_toNat_eq
    exact (pk_tn (BitVec.isLt _)).symm
  · rw [pk_ushr (zI a) (zI 1) 1 (by decide +kernel)]
    have := (zI a).toBitVec.isLt
    omega
theorem zX_mv (b L : Nat) (xs : Nat → Int32) : zMove (fun U => va_X b L xs U U.heap) := fun u U h hh k => by
  have h1 := va_X.moved h k
  rw [hh] at h1
  exact h1
set_option maxRecDepth 100000 in
set_option maxHeartbeats 4000000 in
theorem c_L_low (l : Launch) (D : va_G) (cI cO cL : ClassId) (H0 : Heap) (a n : Int) (hv : 0 < n ∧ n < 2147483648) : zPM l yL_low wsL_low ({ frames := 0, cells := 0, slots := 0, locals := 0 }) (zKK D cI cO cL) [.int (zI a), .int (zI n)] H0 (fun r => ∃ z : Int, r = .int (zI z) ∧ 0 ≤ z ∧ z < n) := by
  refine Met.ofW (cc := cL_low) (maxL := 2) (ret := (some .int)) (by decide) rfl ?_
  intro p e s m args below meth c s₁ B hml hv
  obtain ⟨rfl, hH, hK⟩ := hv
  subst hH
  have hx := B.exec
  have hb := B.bytes
  have hr := B.returns
  have hts := atoms_spec (ws := wsL_low) B.pre
  have hown : s.vm.findClass RL = some m.cls := findClass_of_methodNamed B.named
  have hlocks := B.notSynchronized
  have hl := lv_entry ([.int (zI a), .int (zI n)]) (n := 2) (Nat.le_of_ble_eq_true rfl)
  rw [lg_entry_eq]
  generalize (lg_sl ([.int (zI a), .int (zI n)]) ++ List.replicate (2 - (lg_sl ([.int (zI a), .int (zI n)])).length) Slot.unset).toArray = ls at hl ⊢
  have hl : lv_has ls 2 [(0, .int (zI a)), (1, .int (zI n))] := hl
  refine lv_iload_n hx hb dL_low_0 rfl (lv_at hl 0 rfl) ?_
  refine z_iconst hx hb dL_low_1 ?_
  obtain ⟨q, hq, hq0⟩ := zLow a
  refine lv_iushr hx hb dL_low_2 hq ?_
  refine lv_iload_n hx hb dL_low_3 rfl (lv_at hl 1 rfl) ?_
  refine z_irem hx hb dL_low_4 (by omega) ?_
  exact W.iret hx hb hr (z_end (post := fun r => ∃ z : Int, r = .int (zI z) ∧ 0 ≤ z ∧ z < n) ⟨(q % n), rfl, Int.emod_nonneg _ (by omega), Int.emod_lt_of_pos _ (by omega)⟩) (fun _ h => nomatch h) dL_low_5

theorem lk_cell_7 : Cond.constant RL 7 (zI 1205587465) ∈ wsL_cell := by decide +kernel
set_option maxRecDepth 100000 in
set_option maxHeartbeats 4000000 in
theorem c_L_cell (l : Launch) (b L : Nat) (xs : Nat → Int32) (H0 : Heap) (k : Int) (hv : (0 ≤ k ∧ k < 1000) ∧ L ≤ 260 ∧ b < H0.size) : zPM l yL_cell wsL_cell ({ frames := 0, cells := 0, slots := 0, locals := 0 }) (fun U => va_X b L xs U U.heap) [.ref b, .int (zI k)] H0 (fun r => ∃ z : Int, r = .int (zI z) ∧ -2147483648 ≤ z ∧ z < 2147483648) := by
  refine Met.ofW (cc := cL_cell) (maxL := 2) (ret := (some .int)) (by decide) rfl ?_
  intro p e s m args below meth c s₁ B hml hv
  obtain ⟨rfl, hH, hK⟩ := hv
  subst hH
  have hx := B.exec
  have hb := B.bytes
  have hr := B.returns
  have hts := atoms_spec (ws := wsL_cell) B.pre
  have hown : s.vm.findClass RL = some m.cls := findClass_of_methodNamed B.named
  have hlocks := B.notSynchronized
  have hl := lv_entry ([.ref b, .int (zI k)]) (n := 2) (Nat.le_of_ble_eq_true rfl)
  rw [lg_entry_eq]
  generalize (lg_sl ([.ref b, .int (zI k)]) ++ List.replicate (2 - (lg_sl ([.ref b, .int (zI k)])).length) Slot.unset).toArray = ls at hl ⊢
  have hl : lv_has ls 2 [(0, .ref b), (1, .int (zI k))] := hl
  have hbl : b < s.heap.size := hv.2.2
  refine lv_iload_n hx hb dL_cell_0 rfl (lv_at hl 1 rfl) ?_
  refine lv_aload_n hx hb dL_cell_1 rfl (lv_at hl 0 rfl) ?_
  refine va_slen (A := fun _ => False) hx hb hK hbl id va_S.rf dL_cell_2 ?_
  rw [zI_nat]
  refine z_icmp_ge (tgt := 12) hx hb dL_cell_3 (by decide) (by omega) (fun c_1 => ?_) (fun c_1 => ?_)
  · refine lv_ldc hx hb (v := zI 1205587465) hown (hts _ lk_cell_7) dL_cell_12 ?_
    refine lv_iload_n hx hb dL_cell_14 rfl (lv_at hl 1 rfl) ?_
    refine z_bipush hx hb dL_cell_15 (by decide +kernel) ?_
    refine z_iadd hx hb dL_cell_17 ?_
    refine z_imul hx hb dL_cell_18 ?_
    refine z_nm (fun zz hzz => ?_)
    exact W.iret hx hb hr (z_end (post := fun r => ∃ z : Int, r = .int (zI z) ∧ -2147483648 ≤ z ∧ z < 2147483648) ⟨zz, rfl, hzz⟩) (fun _ h => nomatch h) dL_cell_19
  · refine lv_aload_n hx hb dL_cell_6 rfl (lv_at hl 0 rfl) ?_
    refine lv_iload_n hx hb dL_cell_7 rfl (lv_at hl 1 rfl) ?_
    refine va_sld (A := fun _ => False) hx hb hK hbl id va_S.rf (zI_in (by omega)) dL_cell_8 ?_
    refine z_nm (fun yy hyy => ?_)
    refine lv_goto (tgt := 19) hx hb dL_cell_9 (by decide) ?_
    refine z_nm (fun zz hzz => ?_)
    exact W.iret hx hb hr (z_end (post := fun r => ∃ z : Int, r = .int (zI z) ∧ -2147483648 ≤ z ∧ z < 2147483648) ⟨zz, rfl, hzz⟩) (fun _ h => nomatch h) dL_cell_19

set_option maxRecDepth 100000 in
set_option maxHeartbeats 4000000 in
theorem c_L_tideAt (l : Launch) (D : va_G) (cI cO cL : ClassId) (la : Nat → Nat) (τ σ : zT) (H0 : Heap) (hR : RA D cI la τ H0) (k : Int) (hI : zInv σ) (hT : Rl τ σ) (hv : 0 ≤ k ∧ k < 1000000) : zPM l yL_tideAt wsL_tideAt ({ frames := 0, cells := 0, slots := 0, locals := 0 }) (zKK D cI cO cL) [.int (zI k), .ref (la 0)] H0 (fun r => r = .int (zI (zLev σ k))) := by
  refine Met.ofW (cc := cL_tideAt) (maxL := 4) (ret := (some .int)) (by decide) rfl ?_
  intro p e s m args below meth c s₁ B hml hv
  obtain ⟨rfl, hH, hK⟩ := hv
  subst hH
  have hx := B.exec
  have hb := B.bytes
  have hr := B.returns
  have hts := atoms_spec (ws := wsL_tideAt) B.pre
  have hown : s.vm.findClass RL = some m.cls := findClass_of_methodNamed B.named
  have hlocks := B.notSynchronized
  have hl := lv_entry ([.int (zI k), .ref (la 0)]) (n := 4) (Nat.le_of_ble_eq_true rfl)
  rw [lg_entry_eq]
  generalize (lg_sl ([.int (zI k), .ref (la 0)]) ++ List.replicate (4 - (lg_sl ([.int (zI k), .ref (la 0)])).length) Slot.unset).toArray = ls at hl ⊢
  have hl : lv_has ls 4 [(0, .int (zI k)), (1, .ref (la 0))] := hl
  have f0 := hI.r
  have g1 : ∀ d, 0 ≤ d ∧ d ≤ 360 → 0 ≤ d * σ 3 0 ∧ d * σ 3 0 ≤ 72000 := fun d hd => ⟨Int.mul_nonneg hd.1 f0.2.2.1.1, Int.mul_le_mul hd.2 f0.2.2.1.2 f0.2.2.1.1 (by decide)⟩
  refine lv_iload_n hx hb dL_tideAt_0 rfl (lv_at hl 0 rfl) ?_
  refine z_sipush hx hb dL_tideAt_1 (by decide +kernel) ?_
  refine z_irem hx hb dL_tideAt_4 (by omega) ?_
  refine lv_istore_n (lv' := [(2, .int (zI (k % 720))), (0, .int (zI k)), (1, .ref (la 0))]) hx hb dL_tideAt_5 rfl hl (by decide) rfl (fun ls hl => ?_)
  refine lv_iload_n hx hb dL_tideAt_6 rfl (lv_at hl 0 rfl) ?_
  refine z_sipush hx hb dL_tideAt_7 (by decide +kernel) ?_
  refine z_icmp_le (tgt := 21) hx hb dL_tideAt_10 (by decide) (by omega) (fun c_1 => ?_) (fun c_1 => ?_)
  · refine lv_iload_n hx hb dL_tideAt_21 rfl (lv_at hl 0 rfl) ?_
    refine lv_istore_n (lv' := [(3, .int (zI (k % 720))), (2, .int (zI (k % 720))), (0, .int (zI k)), (1, .ref (la 0))]) hx hb dL_tideAt_22 rfl hl (by decide) rfl (fun ls hl => ?_)
    refine lv_iload_n hx hb dL_tideAt_23 rfl (lv_at hl 0 rfl) ?_
    refine lv_aload_n hx hb dL_tideAt_24 rfl (lv_at hl 3 rfl) ?_
    refine z_iconst hx hb dL_tideAt_25 ?_
    refine l_ald hx hb hK hR 0 (by decide) (by show 0 ≤ 2 ∧ 2 < ((6 : Nat) : Int); omega) dL_tideAt_26 ?_
    refine z_top (b := σ 3 0) (by rw [hT.g2]) ?_
    refine z_imul hx hb dL_tideAt_27 ?_
    refine z_sipush hx hb dL_tideAt_28 (by decide +kernel) ?_
    refine z_idiv hx hb dL_tideAt_31 (by first | (have := g1 (k % 720) (by omega); omega) | (have := g1 (720 - k % 720) (by omega); omega)) ?_
    exact W.iret hx hb hr (z_end (post := fun r => r = .int (zI (zLev σ k))) (z_eq (a := (((k % 720) * (σ 3 0)) / 360)) (b := zLev σ k) (by rw [zLev_e]; unfold zTent; split <;> first | rfl | omega | (congr 2; omega)))) (fun _ h => nomatch h) dL_tideAt_32
  · refine z_sipush hx hb dL_tideAt_13 (by decide +kernel) ?_
    refine lv_iload_n hx hb dL_tideAt_16 rfl (lv_at hl 0 rfl) ?_
    refine z_isub hx hb dL_tideAt_17 ?_
    refine lv_goto (tgt := 22) hx hb dL_tideAt_18 (by decide) ?_
    refine lv_istore_n (lv' := [(3, .int (zI (720 - (k % 720)))), (2, .int (zI (k % 720))), (0, .int (zI k)), (1, .ref (la 0))]) hx hb dL_tideAt_22 rfl hl (by decide) rfl (fun ls hl => ?_)
    refine lv_iload_n hx hb dL_tideAt_23 rfl (lv_at hl 0 rfl) ?_
    refine lv_aload_n hx hb dL_tideAt_24 rfl (lv_at hl 3 rfl) ?_
    refine z_iconst hx hb dL_tideAt_25 ?_
    refine l_ald hx hb hK hR 0 (by decide) (by show 0 ≤ 2 ∧ 2 < ((6 : Nat) : Int); omega) dL_tideAt_26 ?_
    refine z_top (b := σ 3 0) (by rw [hT.g2]) ?_
    refine z_imul hx hb dL_tideAt_27 ?_
    refine z_sipush hx hb dL_tideAt_28 (by decide +kernel) ?_
    refine z_idiv hx hb dL_tideAt_31 (by first | (have := g1 (k % 720) (by omega); omega) | (have := g1 (720 - k % 720) (by omega); omega)) ?_
    exact W.iret hx hb hr (z_end (post := fun r => r = .int (zI (zLev σ k))) (z_eq (a := (((720 - (k % 720)) * (σ 3 0)) / 360)) (b := zLev σ k) (by rw [zLev_e]; unfold zTent; split <;> first | rfl | omega | (congr 2; omega)))) (fun _ h => nomatch h) dL_tideAt_32

set_option maxRecDepth 100000 in
set_option maxHeartbeats 4000000 in
theorem c_L_reason (l : Launch) (D : va_G) (cI cO cL : ClassId) (la : Nat → Nat) (τ σ : zT) (H0 : Heap) (hR : RA D cI la τ H0) (k t : Int) (hI : zInv σ) (hB : zB σ) (hT : Rl τ σ) (hk : 0 ≤ k ∧ k < σ 14 0) (hv : 0 ≤ t ∧ t < 900000) : zPM l yL_reason wsL_reason ({ frames := 1, cells := 0, slots := 0, locals := 23 }) (zKK D cI cO cL) [.int (zI k), .int (zI t), .ref (la 0), .ref (la 1), .ref (la 3), .ref (la 5)] H0 (fun r => r = .int (zI (zan_why σ k t))) := by
  refine Met.ofW (cc := cL_reason) (maxL := 13) (ret := (some .int)) (by decide) rfl ?_
  intro p e s m args below meth c s₁ B hml hv
  obtain ⟨rfl, hH, hK⟩ := hv
  subst hH
  have hx := B.exec
  have hb := B.bytes
  have hr := B.returns
  have hts := atoms_spec (ws := wsL_reason) B.pre
  have hown : s.vm.findClass RL = some m.cls := findClass_of_methodNamed B.named
  have hlocks := B.notSynchronized
  have hl := lv_entry ([.int (zI k), .int (zI t), .ref (la 0), .ref (la 1), .ref (la 3), .ref (la 5)]) (n := 13) (Nat.le_of_ble_eq_true rfl)
  rw [lg_entry_eq]
  generalize (lg_sl ([.int (zI k), .int (zI t), .ref (la 0), .ref (la 1), .ref (la 3), .ref (la 5)]) ++ List.replicate (13 - (lg_sl ([.int (zI k), .int (zI t), .ref (la 0), .ref (la 1), .ref (la 3), .ref (la 5)])).length) Slot.unset).toArray = ls at hl ⊢
  have hl : lv_has ls 13 [(0, .int (zI k)), (1, .int (zI t)), (2, .ref (la 0)), (3, .ref (la 1)), (4, .ref (la 3)), (5, .ref (la 5))] := hl
  have f0 := hI.r
  have b0 : σ 5 0 ≤ 6 ∧ σ 11 0 ≤ 4 ∧ σ 14 0 ≤ 10 := hB
  have fk := hI.c hk
  have gk := hI.s (i := σ 15 k) (by omega)
  have rk := zRest_r (σ 8 (σ 15 k))
  refine lv_aload_n hx hb dL_reason_0 rfl (lv_at hl 3 rfl) ?_
  refine lv_aload hx hb dL_reason_1 (lv_at hl 4 rfl) ?_
  refine lv_iload_n hx hb dL_reason_3 rfl (lv_at hl 0 rfl) ?_
  refine l_ald hx hb hK hR 3 (by decide) (by show 0 ≤ k ∧ k < ((10 : Nat) : Int); omega) dL_reason_4 ?_
  refine z_top (b := pC σ k) (by rw [hT.c (i := k) (by omega)]) ?_
  refine z_cs (As := [.int (zI (pC σ k))]) (rest := [.ref (la 1)]) ⟨hx, hb, hml, hown, hts⟩ (c_L_shipOf l D cI cO cL s.heap (pC σ k) (pC_r hI hB (i := k) (by omega))) (va_cwS 1 hts gL_reason_L_shipOf rfl rfl rfl (by decide +kernel) ⟨(Nat.le_of_ble_eq_true rfl), (Nat.le_of_ble_eq_true rfl)⟩) (zKK_mv D cI cO cL) (fun U _ hv => va_K.moved hv hK) rfl hl.1 rfl (Nat.le_of_ble_eq_true rfl) dL_reason_5 ⟨Nat.zero_le _, Nat.zero_le _⟩ (fun r_1 hr_1 => ?_)
  rw [hr_1, pC_s hI hB (i := k) (by omega)]
  refine l_ald hx hb hK hR 1 (by decide) (by show 0 ≤ (σ 15 k) ∧ (σ 15 k) < ((6 : Nat) : Int); omega) dL_reason_8 ?_
  refine z_top (b := pS σ (σ 15 k)) (by rw [hT.s (i := (σ 15 k)) (by omega)]) ?_
  refine lv_istore (lv' := [(6, .int (zI (pS σ (σ 15 k)))), (0, .int (zI k)), (1, .int (zI t)), (2, .ref (la 0)), (3, .ref (la 1)), (4, .ref (la 3)), (5, .ref (la 5))]) hx hb dL_reason_9 hl (by decide) rfl (fun ls hl => ?_)
  refine lv_iload hx hb dL_reason_11 (lv_at hl 0 rfl) ?_
  refine z_cs (As := [.int (zI (pS σ (σ 15 k)))]) (rest := []) ⟨hx, hb, hml, hown, hts⟩ (c_L_takes l D cI cO cL s.heap (pS σ (σ 15 k)) (pS_r hI (i := (σ 15 k)) (by omega))) (va_cwS 1 hts gL_reason_L_takes rfl rfl rfl (by decide +kernel) ⟨(Nat.le_of_ble_eq_true rfl), (Nat.le_of_ble_eq_true rfl)⟩) (zKK_mv D cI cO cL) (fun U _ hv => va_K.moved hv hK) rfl hl.1 rfl (Nat.le_of_ble_eq_true rfl) dL_reason_13 ⟨Nat.zero_le _, Nat.zero_le _⟩ (fun r_2 hr_2 => ?_)
  rw [hr_2, pS_t hI (i := (σ 15 k)) (by omega)]
  refine lv_istore (lv' := [(7, .int (zI (σ 8 (σ 15 k)))), (6, .int (zI (pS σ (σ 15 k)))), (0, .int (zI k)), (1, .int (zI t)), (2, .ref (la 0)), (3, .ref (la 1)), (4, .ref (la 3)), (5, .ref (la 5))]) hx hb dL_reason_16 hl (by decide) rfl (fun ls hl => ?_)
  refine lv_iload_n hx hb dL_reason_18 rfl (lv_at hl 3 rfl) ?_
  refine lv_istore (lv' := [(8, .int (zI t)), (7, .int (zI (σ 8 (σ 15 k)))), (6, .int (zI (pS σ (σ 15 k)))), (0, .int (zI k)), (1, .int (zI t)), (2, .ref (la 0)), (3, .ref (la 1)), (4, .ref (la 3)), (5, .ref (la 5))]) hx hb dL_reason_19 hl (by decide) rfl (fun ls hl => ?_)
  refine z_cap (fun WW_hL wi_hL wo_hL => ?_)
  have hL : ∀ (n : Nat) (i : Int) (ls : Array Slot), (∀ mm, t ≤ mm → mm < i → σ 6 (σ 15 k) + 10 ≤ σ 2 0 + zLev σ mm) → (t ≤ i ∧ i ≤ t + σ 8 (σ 15 k)) → (t + σ 8 (σ 15 k) - i).toNat < n → lv_has ls 13 [(7, .int (zI (σ 8 (σ 15 k)))), (6, .int (zI (pS σ (σ 15 k)))), (0, .int (zI k)), (1, .int (zI t)), (2, .ref (la 0)), (3, .ref (la 1)), (4, .ref (la 3)), (5, .ref (la 5)), (8, .int (zI i))] → WW_hL s.heap [] 0 0 (F0 m 21 ls []) := by
    intro n_hL
    induction n_hL with
    | zero => intro i ls hd hi hm; exact absurd hm (Nat.not_lt_zero _)
    | succ n_hL ih_hL =>
      intro i ls hd hi hm hl
      refine wi_hL _ _ _ _ _ ?_
      have lv := zLev_r f0.2.2.1 i
      refine lv_iload hx hb dL_reason_21 (lv_at hl 8 rfl) ?_
      refine lv_iload_n hx hb dL_reason_23 rfl (lv_at hl 3 rfl) ?_
      refine lv_iload hx hb dL_reason_24 (lv_at hl 0 rfl) ?_
      refine z_iadd hx hb dL_reason_26 ?_
      refine z_icmp_ge (tgt := 59) hx hb dL_reason_27 (by decide) (by omega) (fun c_3 => ?_) (fun c_3 => ?_)
      · have hTide : zTideOk σ (σ 15 k) t := fun mm a b => hd mm a (by omega)
        refine z_iconst hx hb dL_reason_59 ?_
        refine lv_istore (lv' := [(8, .int (zI 0)), (7, .int (zI (σ 8 (σ 15 k)))), (6, .int (zI (pS σ (σ 15 k)))), (0, .int (zI k)), (1, .int (zI t)), (2, .ref (la 0)), (3, .ref (la 1)), (4, .ref (la 3)), (5, .ref (la 5))]) hx hb dL_reason_60 hl (by decide) rfl (fun ls hl => ?_)
        refine z_cap (fun WW_hL2 wi_hL2 wo_hL2 => ?_)
        have hL2 : ∀ (n : Nat) (j : Int) (ls : Array Slot), (∀ o, 0 ≤ o → o < j → zRestOk1 σ k t o) → (0 ≤ j ∧ j ≤ σ 14 0) → (σ 14 0 - j).toNat < n → lv_has ls 13 [(7, .int (zI (σ 8 (σ 15 k)))), (6, .int (zI (pS σ (σ 15 k)))), (0, .int (zI k)), (1, .int (zI t)), (2, .ref (la 0)), (3, .ref (la 1)), (4, .ref (la 3)), (5, .ref (la 5)), (8, .int (zI j))] → WW_hL2 s.heap [] 0 0 (F0 m 62 ls []) := by
          intro n_hL2
          induction n_hL2 with
          | zero => intro j ls hd2 hj hm; exact absurd hm (Nat.not_lt_zero _)
          | succ n_hL2 ih_hL2 =>
            intro j ls hd2 hj hm hl
            refine wi_hL2 _ _ _ _ _ ?_
            refine lv_iload hx hb dL_reason_62 (lv_at hl 8 rfl) ?_
            refine lv_aload_n hx hb dL_reason_64 rfl (lv_at hl 4 rfl) ?_
            refine z_iconst hx hb dL_reason_65 ?_
            refine l_ald hx hb hK hR 0 (by decide) (by show 0 ≤ 4 ∧ 4 < ((6 : Nat) : Int); omega) dL_reason_66 ?_
            refine z_top (b := σ 14 0) (by rw [hT.g4]) ?_
            refine z_icmp_ge (tgt := 222) hx hb dL_reason_67 (by decide) (by omega) (fun c_4 => ?_) (fun c_4 => ?_)
            · have hRst : zRestOk σ k t := fun o a b => hd2 o a (by omega)
              refine lv_iload_n hx hb dL_reason_222 rfl (lv_at hl 3 rfl) ?_
              refine lv_istore (lv' := [(8, .int (zI t)), (7, .int (zI (σ 8 (σ 15 k)))), (6, .int (zI (pS σ (σ 15 k)))), (0, .int (zI k)), (1, .int (zI t)), (2, .ref (la 0)), (3, .ref (la 1)), (4, .ref (la 3)), (5, .ref (la 5))]) hx hb dL_reason_223 hl (by decide) rfl (fun ls hl => ?_)
              refine z_cap (fun WW_hL3 wi_hL3 wo_hL3 => ?_)
              have hL3 : ∀ (n : Nat) (mm : Int) (ls : Array Slot), (∀ m2, t ≤ m2 → m2 < mm → zTugs σ k m2 + zNd σ k ≤ σ 4 0) → (t ≤ mm ∧ mm ≤ t + σ 8 (σ 15 k)) → (t + σ 8 (σ 15 k) - mm).toNat < n → lv_has ls 13 [(7, .int (zI (σ 8 (σ 15 k)))), (6, .int (zI (pS σ (σ 15 k)))), (0, .int (zI k)), (1, .int (zI t)), (2, .ref (la 0)), (3, .ref (la 1)), (4, .ref (la 3)), (5, .ref (la 5)), (8, .int (zI mm))] → WW_hL3 s.heap [] 0 0 (F0 m 225 ls []) := by
                intro n_hL3
                induction n_hL3 with
                | zero => intro mm ls hd3 hmm hm; exact absurd hm (Nat.not_lt_zero _)
                | succ n_hL3 ih_hL3 =>
                  intro mm ls hd3 hmm hm hl
                  refine wi_hL3 _ _ _ _ _ ?_
                  refine lv_iload hx hb dL_reason_225 (lv_at hl 8 rfl) ?_
                  refine lv_iload_n hx hb dL_reason_227 rfl (lv_at hl 3 rfl) ?_
                  refine lv_iload hx hb dL_reason_228 (lv_at hl 0 rfl) ?_
                  refine z_iadd hx hb dL_reason_230 ?_
                  refine z_icmp_ge (tgt := 344) hx hb dL_reason_231 (by decide) (by omega) (fun c_5 => ?_) (fun c_5 => ?_)
                  · have hTug : zTugOk σ k t := fun m2 a b => hd3 m2 a (by simp only [zTk] at b; omega)
                    refine z_iconst hx hb dL_reason_344 ?_
                    refine lv_istore (lv' := [(8, .int (zI 0)), (7, .int (zI (σ 8 (σ 15 k)))), (6, .int (zI (pS σ (σ 15 k)))), (0, .int (zI k)), (1, .int (zI t)), (2, .ref (la 0)), (3, .ref (la 1)), (4, .ref (la 3)), (5, .ref (la 5))]) hx hb dL_reason_345 hl (by decide) rfl (fun ls hl => ?_)
                    refine z_cap (fun WW_hL5 wi_hL5 wo_hL5 => ?_)
                    have hL5 : ∀ (n : Nat) (j : Int) (ls : Array Slot), (∀ o, 0 ≤ o → o < j → zChanOk1 σ k t o) → (0 ≤ j ∧ j ≤ σ 14 0) → (σ 14 0 - j).toNat < n → lv_has ls 13 [(7, .int (zI (σ 8 (σ 15 k)))), (6, .int (zI (pS σ (σ 15 k)))), (0, .int (zI k)), (1, .int (zI t)), (2, .ref (la 0)), (3, .ref (la 1)), (4, .ref (la 3)), (5, .ref (la 5)), (8, .int (zI j))] → WW_hL5 s.heap [] 0 0 (F0 m 347 ls []) := by
                      intro n_hL5
                      induction n_hL5 with
                      | zero => intro j ls hd4 hj hm; exact absurd hm (Nat.not_lt_zero _)
                      | succ n_hL5 ih_hL5 =>
                        intro j ls hd4 hj hm hl
                        refine wi_hL5 _ _ _ _ _ ?_
                        refine lv_iload hx hb dL_reason_347 (lv_at hl 8 rfl) ?_
                        refine lv_aload_n hx hb dL_reason_349 rfl (lv_at hl 4 rfl) ?_
                        refine z_iconst hx hb dL_reason_350 ?_
                        refine l_ald hx hb hK hR 0 (by decide) (by show 0 ≤ 4 ∧ 4 < ((6 : Nat) : Int); omega) dL_reason_351 ?_
                        refine z_top (b := σ 14 0) (by rw [hT.g4]) ?_
                        refine z_icmp_ge (tgt := 405) hx hb dL_reason_352 (by decide) (by omega) (fun c_6 => ?_) (fun c_6 => ?_)
                        · refine z_iconst hx hb dL_reason_405 ?_
                          exact W.iret hx hb hr (z_end (post := fun r => r = .int (zI (zan_why σ k t))) (z_eq (a := 0) (b := zan_why σ k t) (by exact (zwhy_0 hTide hRst hTug (fun o a b => hd4 o a (by omega))).symm))) (fun _ h => nomatch h) dL_reason_406
                        · have fj := hI.c (i := j) (by omega)
                          refine lv_iload hx hb dL_reason_355 (lv_at hl 8 rfl) ?_
                          refine lv_iload_n hx hb dL_reason_357 rfl (lv_at hl 2 rfl) ?_
                          refine z_icmp_eq (tgt := 399) hx hb dL_reason_358 (by decide) (by omega) (fun c_7 => ?_) (fun c_7 => ?_)
                          · refine z_iinc (lv' := [(8, .int (zI (j + 1))), (7, .int (zI (σ 8 (σ 15 k)))), (6, .int (zI (pS σ (σ 15 k)))), (0, .int (zI k)), (1, .int (zI t)), (2, .ref (la 0)), (3, .ref (la 1)), (4, .ref (la 3)), (5, .ref (la 5))]) hx hb dL_reason_399 hl (k := 8) rfl (by decide) rfl (fun ls hl => ?_)
                            refine lv_goto (tgt := 347) hx hb dL_reason_402 (by decide) ?_
                            exact wo_hL5 _ _ _ _ _ (ih_hL5 (j + 1) ls (by exact fun o a b => if e9 : o = j then by rw [e9]; intro h1 h2; omega else hd4 o a (by omega)) (by omega) (by omega) (lv_sub hl [1, 2, 3, 4, 5, 6, 7, 8, 0] rfl))
                          · refine lv_aload hx hb dL_reason_361 (lv_at hl 6 rfl) ?_
                            refine lv_iload hx hb dL_reason_363 (lv_at hl 8 rfl) ?_
                            refine l_ald hx hb hK hR 3 (by decide) (by show 0 ≤ j ∧ j < ((10 : Nat) : Int); omega) dL_reason_365 ?_
                            refine z_top (b := pC σ j) (by rw [hT.c (i := j) (by omega)]) ?_
                            refine z_cs (As := [.int (zI (pC σ j))]) (rest := []) ⟨hx, hb, hml, hown, hts⟩ (c_L_stateOf l D cI cO cL s.heap (pC σ j) (pC_r hI hB (i := j) (by omega))) (va_cwS 1 hts gL_reason_L_stateOf rfl rfl rfl (by decide +kernel) ⟨(Nat.le_of_ble_eq_true rfl), (Nat.le_of_ble_eq_true rfl)⟩) (zKK_mv D cI cO cL) (fun U _ hv => va_K.moved hv hK) rfl hl.1 rfl (Nat.le_of_ble_eq_true rfl) dL_reason_366 ⟨Nat.zero_le _, Nat.zero_le _⟩ (fun r_8 hr_8 => ?_)
                            rw [hr_8, pC_t hI hB (i := j) (by omega)]
                            refine z_iconst hx hb dL_reason_369 ?_
                            refine z_icmp_lt (tgt := 399) hx hb dL_reason_370 (by decide) (by omega) (fun c_9 => ?_) (fun c_9 => ?_)
                            · refine z_iinc (lv' := [(8, .int (zI (j + 1))), (7, .int (zI (σ 8 (σ 15 k)))), (6, .int (zI (pS σ (σ 15 k)))), (0, .int (zI k)), (1, .int (zI t)), (2, .ref (la 0)), (3, .ref (la 1)), (4, .ref (la 3)), (5, .ref (la 5))]) hx hb dL_reason_399 hl (k := 8) rfl (by decide) rfl (fun ls hl => ?_)
                              refine lv_goto (tgt := 347) hx hb dL_reason_402 (by decide) ?_
                              exact wo_hL5 _ _ _ _ _ (ih_hL5 (j + 1) ls (by exact fun o a b => if e9 : o = j then by rw [e9]; intro h1 h2; omega else hd4 o a (by omega)) (by omega) (by omega) (lv_sub hl [1, 2, 3, 4, 5, 6, 7, 8, 0] rfl))
                            · refine lv_aload hx hb dL_reason_373 (lv_at hl 7 rfl) ?_
                              refine lv_iload hx hb dL_reason_375 (lv_at hl 8 rfl) ?_
                              refine l_ald hx hb hK hR 5 (by decide) (by show 0 ≤ j ∧ j < ((10 : Nat) : Int); omega) dL_reason_377 ?_
                              refine z_top (b := σ 20 j) (by rw [hT.t (i := j) (by omega)]) ?_
                              refine lv_iload_n hx hb dL_reason_378 rfl (lv_at hl 3 rfl) ?_
                              refine z_isub hx hb dL_reason_379 ?_
                              refine z_bipush hx hb dL_reason_380 (by decide +kernel) ?_
                              refine z_icmp_ge (tgt := 399) hx hb dL_reason_382 (by decide) (by omega) (fun c_10 => ?_) (fun c_10 => ?_)
                              · refine z_iinc (lv' := [(8, .int (zI (j + 1))), (7, .int (zI (σ 8 (σ 15 k)))), (6, .int (zI (pS σ (σ 15 k)))), (0, .int (zI k)), (1, .int (zI t)), (2, .ref (la 0)), (3, .ref (la 1)), (4, .ref (la 3)), (5, .ref (la 5))]) hx hb dL_reason_399 hl (k := 8) rfl (by decide) rfl (fun ls hl => ?_)
                                refine lv_goto (tgt := 347) hx hb dL_reason_402 (by decide) ?_
                                exact wo_hL5 _ _ _ _ _ (ih_hL5 (j + 1) ls (by exact fun o a b => if e9 : o = j then by rw [e9]; intro h1 h2; omega else hd4 o a (by omega)) (by omega) (by omega) (lv_sub hl [1, 2, 3, 4, 5, 6, 7, 8, 0] rfl))
                              · refine lv_iload_n hx hb dL_reason_385 rfl (lv_at hl 3 rfl) ?_
                                refine lv_aload hx hb dL_reason_386 (lv_at hl 7 rfl) ?_
                                refine lv_iload hx hb dL_reason_388 (lv_at hl 8 rfl) ?_
                                refine l_ald hx hb hK hR 5 (by decide) (by show 0 ≤ j ∧ j < ((10 : Nat) : Int); omega) dL_reason_390 ?_
                                refine z_top (b := σ 20 j) (by rw [hT.t (i := j) (by omega)]) ?_
                                refine z_isub hx hb dL_reason_391 ?_
                                refine z_bipush hx hb dL_reason_392 (by decide +kernel) ?_
                                refine z_icmp_ge (tgt := 399) hx hb dL_reason_394 (by decide) (by omega) (fun c_11 => ?_) (fun c_11 => ?_)
                                · refine z_iinc (lv' := [(8, .int (zI (j + 1))), (7, .int (zI (σ 8 (σ 15 k)))), (6, .int (zI (pS σ (σ 15 k)))), (0, .int (zI k)), (1, .int (zI t)), (2, .ref (la 0)), (3, .ref (la 1)), (4, .ref (la 3)), (5, .ref (la 5))]) hx hb dL_reason_399 hl (k := 8) rfl (by decide) rfl (fun ls hl => ?_)
                                  refine lv_goto (tgt := 347) hx hb dL_reason_402 (by decide) ?_
                                  exact wo_hL5 _ _ _ _ _ (ih_hL5 (j + 1) ls (by exact fun o a b => if e9 : o = j then by rw [e9]; intro h1 h2; omega else hd4 o a (by omega)) (by omega) (by omega) (lv_sub hl [1, 2, 3, 4, 5, 6, 7, 8, 0] rfl))
                                · refine z_iconst hx hb dL_reason_397 ?_
                                  exact W.iret hx hb hr (z_end (post := fun r => r = .int (zI (zan_why σ k t))) (z_eq (a := 4) (b := zan_why σ k t) (by exact (zwhy_4 hTide hRst hTug (fun z => absurd (z j (by omega) (by omega) (by omega) (by omega)) (by omega))).symm))) (fun _ h => nomatch h) dL_reason_398
                    exact wo_hL5 _ _ _ _ _ (hL5 _ 0 ls (by intro o a b; omega) (by omega) (Nat.lt_succ_self _) (lv_sub hl [1, 2, 3, 4, 5, 6, 7, 8, 0] rfl))
                  · refine lv_iload hx hb dL_reason_234 (lv_at hl 1 rfl) ?_
                    refine z_cs (As := [.int (zI (pS σ (σ 15 k)))]) (rest := []) ⟨hx, hb, hml, hown, hts⟩ (c_L_needs l D cI cO cL s.heap (pS σ (σ 15 k)) (pS_r hI (i := (σ 15 k)) (by omega))) (va_cwS 1 hts gL_reason_L_needs rfl rfl rfl (by decide +kernel) ⟨(Nat.le_of_ble_eq_true rfl), (Nat.le_of_ble_eq_true rfl)⟩) (zKK_mv D cI cO cL) (fun U _ hv => va_K.moved hv hK) rfl hl.1 rfl (Nat.le_of_ble_eq_true rfl) dL_reason_236 ⟨Nat.zero_le _, Nat.zero_le _⟩ (fun r_12 hr_12 => ?_)
                    rw [hr_12, pS_n hI (i := (σ 15 k)) (by omega)]
                    refine lv_istore (lv' := [(9, .int (zI (σ 9 (σ 15 k)))), (7, .int (zI (σ 8 (σ 15 k)))), (6, .int (zI (pS σ (σ 15 k)))), (0, .int (zI k)), (1, .int (zI t)), (2, .ref (la 0)), (3, .ref (la 1)), (4, .ref (la 3)), (5, .ref (la 5)), (8, .int (zI mm))]) hx hb dL_reason_239 hl (by decide) rfl (fun ls hl => ?_)
                    refine z_iconst hx hb dL_reason_241 ?_
                    refine lv_istore (lv' := [(10, .int (zI 0)), (9, .int (zI (σ 9 (σ 15 k)))), (7, .int (zI (σ 8 (σ 15 k)))), (6, .int (zI (pS σ (σ 15 k)))), (0, .int (zI k)), (1, .int (zI t)), (2, .ref (la 0)), (3, .ref (la 1)), (4, .ref (la 3)), (5, .ref (la 5)), (8, .int (zI mm))]) hx hb dL_reason_242 hl (by decide) rfl (fun ls hl => ?_)
                    refine z_cap (fun WW_hL4 wi_hL4 wo_hL4 => ?_)
                    have hL4 : ∀ (n : Nat) (v o : Int) (ls : Array Slot), v = σ 9 (σ 15 k) + zSum (zTug1 σ k mm) o.toNat → (0 ≤ o ∧ o ≤ σ 14 0) → (σ 14 0 - o).toNat < n → lv_has ls 13 [(7, .int (zI (σ 8 (σ 15 k)))), (6, .int (zI (pS σ (σ 15 k)))), (0, .int (zI k)), (1, .int (zI t)), (2, .ref (la 0)), (3, .ref (la 1)), (4, .ref (la 3)), (5, .ref (la 5)), (8, .int (zI mm)), (9, .int (zI v)), (10, .int (zI o))] → WW_hL4 s.heap [] 0 0 (F0 m 244 ls []) := by
                      intro n_hL4
                      induction n_hL4 with
                      | zero => intro v o ls hw ho hm; exact absurd hm (Nat.not_lt_zero _)
                      | succ n_hL4 ih_hL4 =>
                        intro v o ls hw ho hm hl
                        refine wi_hL4 _ _ _ _ _ ?_
                        refine lv_iload hx hb dL_reason_244 (lv_at hl 10 rfl) ?_
                        refine lv_aload_n hx hb dL_reason_246 rfl (lv_at hl 4 rfl) ?_
                        refine z_iconst hx hb dL_reason_247 ?_
                        refine l_ald hx hb hK hR 0 (by decide) (by show 0 ≤ 4 ∧ 4 < ((6 : Nat) : Int); omega) dL_reason_248 ?_
                        refine z_top (b := σ 14 0) (by rw [hT.g4]) ?_
                        refine z_icmp_ge (tgt := 328) hx hb dL_reason_249 (by decide) (by omega) (fun c_13 => ?_) (fun c_13 => ?_)
                        · have hv : v = σ 9 (σ 15 k) + zTugs σ k mm := by rw [hw, show o = σ 14 0 by omega]; rfl
                          have tr := zTugs_r hI k mm
                          refine lv_iload hx hb dL_reason_328 (lv_at hl 9 rfl) ?_
                          refine lv_aload_n hx hb dL_reason_330 rfl (lv_at hl 4 rfl) ?_
                          refine z_iconst hx hb dL_reason_331 ?_
                          refine l_ald hx hb hK hR 0 (by decide) (by show 0 ≤ 3 ∧ 3 < ((6 : Nat) : Int); omega) dL_reason_332 ?_
                          refine z_top (b := σ 4 0) (by rw [hT.g3]) ?_
                          refine z_icmp_le (tgt := 338) hx hb dL_reason_333 (by decide) (by omega) (fun c_14 => ?_) (fun c_14 => ?_)
                          · refine z_iinc (lv' := [(8, .int (zI (mm + 1))), (7, .int (zI (σ 8 (σ 15 k)))), (6, .int (zI (pS σ (σ 15 k)))), (0, .int (zI k)), (1, .int (zI t)), (2, .ref (la 0)), (3, .ref (la 1)), (4, .ref (la 3)), (5, .ref (la 5)), (9, .int (zI v)), (10, .int (zI o))]) hx hb dL_reason_338 hl (k := 8) rfl (by decide) rfl (fun ls hl => ?_)
                            refine lv_goto (tgt := 225) hx hb dL_reason_341 (by decide) ?_
                            exact wo_hL3 _ _ _ _ _ (ih_hL3 (mm + 1) ls (by exact fun o a b => if e9 : o = mm then by rw [e9]; simp only [zNd]; omega else hd3 o a (by omega)) (by omega) (by omega) (lv_sub hl [1, 2, 3, 4, 5, 6, 7, 8, 0] rfl))
                          · refine z_iconst hx hb dL_reason_336 ?_
                            exact W.iret hx hb hr (z_end (post := fun r => r = .int (zI (zan_why σ k t))) (z_eq (a := 3) (b := zan_why σ k t) (by exact (zwhy_3 hTide hRst (fun z => absurd (z mm (by omega) (by simp only [zTk]; omega)) (by simp only [zNd]; omega))).symm))) (fun _ h => nomatch h) dL_reason_337
                        · have fo := hI.c (i := o) (by omega)
                          have go := hI.s (i := σ 15 o) (by omega)
                          refine lv_iload hx hb dL_reason_252 (lv_at hl 10 rfl) ?_
                          refine lv_iload_n hx hb dL_reason_254 rfl (lv_at hl 2 rfl) ?_
                          refine z_icmp_eq (tgt := 322) hx hb dL_reason_255 (by decide) (by omega) (fun c_15 => ?_) (fun c_15 => ?_)
                          · refine z_iinc (lv' := [(10, .int (zI (o + 1))), (7, .int (zI (σ 8 (σ 15 k)))), (6, .int (zI (pS σ (σ 15 k)))), (0, .int (zI k)), (1, .int (zI t)), (2, .ref (la 0)), (3, .ref (la 1)), (4, .ref (la 3)), (5, .ref (la 5)), (8, .int (zI mm)), (9, .int (zI v))]) hx hb dL_reason_322 hl (k := 10) rfl (by decide) rfl (fun ls hl => ?_)
                            refine lv_goto (tgt := 244) hx hb dL_reason_325 (by decide) ?_
                            exact wo_hL4 _ _ _ _ _ (ih_hL4 v (o + 1) ls (by rw [zSum_i _ ho.1]; first | (rw [zTug_f (by omega)]; omega) | (rw [zTug_t (by omega)]; omega)) (by omega) (by omega) (lv_sub hl [1, 2, 3, 4, 5, 6, 7, 8, 9, 10, 0] rfl))
                          · refine lv_aload hx hb dL_reason_258 (lv_at hl 6 rfl) ?_
                            refine lv_iload hx hb dL_reason_260 (lv_at hl 10 rfl) ?_
                            refine l_ald hx hb hK hR 3 (by decide) (by show 0 ≤ o ∧ o < ((10 : Nat) : Int); omega) dL_reason_262 ?_
                            refine z_top (b := pC σ o) (by rw [hT.c (i := o) (by omega)]) ?_
                            refine z_cs (As := [.int (zI (pC σ o))]) (rest := []) ⟨hx, hb, hml, hown, hts⟩ (c_L_stateOf l D cI cO cL s.heap (pC σ o) (pC_r hI hB (i := o) (by omega))) (va_cwS 1 hts gL_reason_L_stateOf rfl rfl rfl (by decide +kernel) ⟨(Nat.le_of_ble_eq_true rfl), (Nat.le_of_ble_eq_true rfl)⟩) (zKK_mv D cI cO cL) (fun U _ hv => va_K.moved hv hK) rfl hl.1 rfl (Nat.le_of_ble_eq_true rfl) dL_reason_263 ⟨Nat.zero_le _, Nat.zero_le _⟩ (fun r_16 hr_16 => ?_)
                            rw [hr_16, pC_t hI hB (i := o) (by omega)]
                            refine z_iconst hx hb dL_reason_266 ?_
                            refine z_icmp_lt (tgt := 322) hx hb dL_reason_267 (by decide) (by omega) (fun c_17 => ?_) (fun c_17 => ?_)
                            · refine z_iinc (lv' := [(10, .int (zI (o + 1))), (7, .int (zI (σ 8 (σ 15 k)))), (6, .int (zI (pS σ (σ 15 k)))), (0, .int (zI k)), (1, .int (zI t)), (2, .ref (la 0)), (3, .ref (la 1)), (4, .ref (la 3)), (5, .ref (la 5)), (8, .int (zI mm)), (9, .int (zI v))]) hx hb dL_reason_322 hl (k := 10) rfl (by decide) rfl (fun ls hl => ?_)
                              refine lv_goto (tgt := 244) hx hb dL_reason_325 (by decide) ?_
                              exact wo_hL4 _ _ _ _ _ (ih_hL4 v (o + 1) ls (by rw [zSum_i _ ho.1]; first | (rw [zTug_f (by omega)]; omega) | (rw [zTug_t (by omega)]; omega)) (by omega) (by omega) (lv_sub hl [1, 2, 3, 4, 5, 6, 7, 8, 9, 10, 0] rfl))
                            · refine lv_aload hx hb dL_reason_270 (lv_at hl 7 rfl) ?_
                              refine lv_iload hx hb dL_reason_272 (lv_at hl 10 rfl) ?_
                              refine l_ald hx hb hK hR 5 (by decide) (by show 0 ≤ o ∧ o < ((10 : Nat) : Int); omega) dL_reason_274 ?_
                              refine z_top (b := σ 20 o) (by rw [hT.t (i := o) (by omega)]) ?_
                              refine lv_iload hx hb dL_reason_275 (lv_at hl 8 rfl) ?_
                              refine z_icmp_gt (tgt := 322) hx hb dL_reason_277 (by decide) (by omega) (fun c_18 => ?_) (fun c_18 => ?_)
                              · refine z_iinc (lv' := [(10, .int (zI (o + 1))), (7, .int (zI (σ 8 (σ 15 k)))), (6, .int (zI (pS σ (σ 15 k)))), (0, .int (zI k)), (1, .int (zI t)), (2, .ref (la 0)), (3, .ref (la 1)), (4, .ref (la 3)), (5, .ref (la 5)), (8, .int (zI mm)), (9, .int (zI v))]) hx hb dL_reason_322 hl (k := 10) rfl (by decide) rfl (fun ls hl => ?_)
                                refine lv_goto (tgt := 244) hx hb dL_reason_325 (by decide) ?_
                                exact wo_hL4 _ _ _ _ _ (ih_hL4 v (o + 1) ls (by rw [zSum_i _ ho.1]; first | (rw [zTug_f (by omega)]; omega) | (rw [zTug_t (by omega)]; omega)) (by omega) (by omega) (lv_sub hl [1, 2, 3, 4, 5, 6, 7, 8, 9, 10, 0] rfl))
                              · refine lv_iload hx hb dL_reason_280 (lv_at hl 8 rfl) ?_
                                refine lv_aload hx hb dL_reason_282 (lv_at hl 7 rfl) ?_
                                refine lv_iload hx hb dL_reason_284 (lv_at hl 10 rfl) ?_
                                refine l_ald hx hb hK hR 5 (by decide) (by show 0 ≤ o ∧ o < ((10 : Nat) : Int); omega) dL_reason_286 ?_
                                refine z_top (b := σ 20 o) (by rw [hT.t (i := o) (by omega)]) ?_
                                refine lv_aload_n hx hb dL_reason_287 rfl (lv_at hl 5 rfl) ?_
                                refine lv_aload hx hb dL_reason_288 (lv_at hl 6 rfl) ?_
                                refine lv_iload hx hb dL_reason_290 (lv_at hl 10 rfl) ?_
                                refine l_ald hx hb hK hR 3 (by decide) (by show 0 ≤ o ∧ o < ((10 : Nat) : Int); omega) dL_reason_292 ?_
                                refine z_top (b := pC σ o) (by rw [hT.c (i := o) (by omega)]) ?_
                                refine z_cs (As := [.int (zI (pC σ o))]) (rest := [.ref (la 1), .int (zI (σ 20 o)), .int (zI mm)]) ⟨hx, hb, hml, hown, hts⟩ (c_L_shipOf l D cI cO cL s.heap (pC σ o) (pC_r hI hB (i := o) (by omega))) (va_cwS 1 hts gL_reason_L_shipOf rfl rfl rfl (by decide +kernel) ⟨(Nat.le_of_ble_eq_true rfl), (Nat.le_of_ble_eq_true rfl)⟩) (zKK_mv D cI cO cL) (fun U _ hv => va_K.moved hv hK) rfl hl.1 rfl (Nat.le_of_ble_eq_true rfl) dL_reason_293 ⟨Nat.zero_le _, Nat.zero_le _⟩ (fun r_19 hr_19 => ?_)
                                rw [hr_19, pC_s hI hB (i := o) (by omega)]
                                refine l_ald hx hb hK hR 1 (by decide) (by show 0 ≤ (σ 15 o) ∧ (σ 15 o) < ((6 : Nat) : Int); omega) dL_reason_296 ?_
                                refine z_top (b := pS σ (σ 15 o)) (by rw [hT.s (i := (σ 15 o)) (by omega)]) ?_
                                refine z_cs (As := [.int (zI (pS σ (σ 15 o)))]) (rest := [.int (zI (σ 20 o)), .int (zI mm)]) ⟨hx, hb, hml, hown, hts⟩ (c_L_takes l D cI cO cL s.heap (pS σ (σ 15 o)) (pS_r hI (i := (σ 15 o)) (by omega))) (va_cwS 1 hts gL_reason_L_takes rfl rfl rfl (by decide +kernel) ⟨(Nat.le_of_ble_eq_true rfl), (Nat.le_of_ble_eq_true rfl)⟩) (zKK_mv D cI cO cL) (fun U _ hv => va_K.moved hv hK) rfl hl.1 rfl (Nat.le_of_ble_eq_true rfl) dL_reason_297 ⟨Nat.zero_le _, Nat.zero_le _⟩ (fun r_20 hr_20 => ?_)
                                rw [hr_20, pS_t hI (i := (σ 15 o)) (by omega)]
                                refine z_iadd hx hb dL_reason_300 ?_
                                refine z_icmp_ge (tgt := 322) hx hb dL_reason_301 (by decide) (by omega) (fun c_21 => ?_) (fun c_21 => ?_)
                                · refine z_iinc (lv' := [(10, .int (zI (o + 1))), (7, .int (zI (σ 8 (σ 15 k)))), (6, .int (zI (pS σ (σ 15 k)))), (0, .int (zI k)), (1, .int (zI t)), (2, .ref (la 0)), (3, .ref (la 1)), (4, .ref (la 3)), (5, .ref (la 5)), (8, .int (zI mm)), (9, .int (zI v))]) hx hb dL_reason_322 hl (k := 10) rfl (by decide) rfl (fun ls hl => ?_)
                                  refine lv_goto (tgt := 244) hx hb dL_reason_325 (by decide) ?_
                                  exact wo_hL4 _ _ _ _ _ (ih_hL4 v (o + 1) ls (by rw [zSum_i _ ho.1]; first | (rw [zTug_f (by omega)]; omega) | (rw [zTug_t (by omega)]; omega)) (by omega) (by omega) (lv_sub hl [1, 2, 3, 4, 5, 6, 7, 8, 9, 10, 0] rfl))
                                · refine lv_iload hx hb dL_reason_304 (lv_at hl 9 rfl) ?_
                                  refine lv_aload_n hx hb dL_reason_306 rfl (lv_at hl 5 rfl) ?_
                                  refine lv_aload hx hb dL_reason_307 (lv_at hl 6 rfl) ?_
                                  refine lv_iload hx hb dL_reason_309 (lv_at hl 10 rfl) ?_
                                  refine l_ald hx hb hK hR 3 (by decide) (by show 0 ≤ o ∧ o < ((10 : Nat) : Int); omega) dL_reason_311 ?_
                                  refine z_top (b := pC σ o) (by rw [hT.c (i := o) (by omega)]) ?_
                                  refine z_cs (As := [.int (zI (pC σ o))]) (rest := [.ref (la 1), .int (zI v)]) ⟨hx, hb, hml, hown, hts⟩ (c_L_shipOf l D cI cO cL s.heap (pC σ o) (pC_r hI hB (i := o) (by omega))) (va_cwS 1 hts gL_reason_L_shipOf rfl rfl rfl (by decide +kernel) ⟨(Nat.le_of_ble_eq_true rfl), (Nat.le_of_ble_eq_true rfl)⟩) (zKK_mv D cI cO cL) (fun U _ hv => va_K.moved hv hK) rfl hl.1 rfl (Nat.le_of_ble_eq_true rfl) dL_reason_312 ⟨Nat.zero_le _, Nat.zero_le _⟩ (fun r_22 hr_22 => ?_)
                                  rw [hr_22, pC_s hI hB (i := o) (by omega)]
                                  refine l_ald hx hb hK hR 1 (by decide) (by show 0 ≤ (σ 15 o) ∧ (σ 15 o) < ((6 : Nat) : Int); omega) dL_reason_315 ?_
                                  refine z_top (b := pS σ (σ 15 o)) (by rw [hT.s (i := (σ 15 o)) (by omega)]) ?_
                                  refine z_cs (As := [.int (zI (pS σ (σ 15 o)))]) (rest := [.int (zI v)]) ⟨hx, hb, hml, hown, hts⟩ (c_L_needs l D cI cO cL s.heap (pS σ (σ 15 o)) (pS_r hI (i := (σ 15 o)) (by omega))) (va_cwS 1 hts gL_reason_L_needs rfl rfl rfl (by decide +kernel) ⟨(Nat.le_of_ble_eq_true rfl), (Nat.le_of_ble_eq_true rfl)⟩) (zKK_mv D cI cO cL) (fun U _ hv => va_K.moved hv hK) rfl hl.1 rfl (Nat.le_of_ble_eq_true rfl) dL_reason_316 ⟨Nat.zero_le _, Nat.zero_le _⟩ (fun r_23 hr_23 => ?_)
                                  rw [hr_23, pS_n hI (i := (σ 15 o)) (by omega)]
                                  refine z_iadd hx hb dL_reason_319 ?_
                                  refine lv_istore (lv' := [(9, .int (zI (v + (σ 9 (σ 15 o))))), (7, .int (zI (σ 8 (σ 15 k)))), (6, .int (zI (pS σ (σ 15 k)))), (0, .int (zI k)), (1, .int (zI t)), (2, .ref (la 0)), (3, .ref (la 1)), (4, .ref (la 3)), (5, .ref (la 5)), (8, .int (zI mm)), (10, .int (zI o))]) hx hb dL_reason_320 hl (by decide) rfl (fun ls hl => ?_)
                                  refine z_iinc (lv' := [(10, .int (zI (o + 1))), (9, .int (zI (v + (σ 9 (σ 15 o))))), (7, .int (zI (σ 8 (σ 15 k)))), (6, .int (zI (pS σ (σ 15 k)))), (0, .int (zI k)), (1, .int (zI t)), (2, .ref (la 0)), (3, .ref (la 1)), (4, .ref (la 3)), (5, .ref (la 5)), (8, .int (zI mm))]) hx hb dL_reason_322 hl (k := 10) rfl (by decide) rfl (fun ls hl => ?_)
                                  refine lv_goto (tgt := 244) hx hb dL_reason_325 (by decide) ?_
                                  exact wo_hL4 _ _ _ _ _ (ih_hL4 (v + (σ 9 (σ 15 o))) (o + 1) ls (by rw [zSum_i _ ho.1]; first | (rw [zTug_f (by omega)]; omega) | (rw [zTug_t (by omega)]; omega)) (by omega) (by omega) (lv_sub hl [2, 3, 4, 5, 6, 7, 8, 9, 10, 1, 0] rfl))
                    exact wo_hL4 _ _ _ _ _ (hL4 _ (σ 9 (σ 15 k)) 0 ls (by rw [zSum_0]; omega) (by omega) (Nat.lt_succ_self _) (lv_sub hl [2, 3, 4, 5, 6, 7, 8, 9, 10, 1, 0] rfl))
              exact wo_hL3 _ _ _ _ _ (hL3 _ t ls (by intro o a b; omega) (by omega) (Nat.lt_succ_self _) (lv_sub hl [1, 2, 3, 4, 5, 6, 7, 8, 0] rfl))
            · have fj := hI.c (i := j) (by omega)
              have gj := hI.s (i := σ 15 j) (by omega)
              have rj := zRest_r (σ 8 (σ 15 j))
              refine lv_iload hx hb dL_reason_70 (lv_at hl 8 rfl) ?_
              refine lv_iload_n hx hb dL_reason_72 rfl (lv_at hl 2 rfl) ?_
              refine z_icmp_eq (tgt := 216) hx hb dL_reason_73 (by decide) (by omega) (fun c_24 => ?_) (fun c_24 => ?_)
              · refine z_iinc (lv' := [(8, .int (zI (j + 1))), (7, .int (zI (σ 8 (σ 15 k)))), (6, .int (zI (pS σ (σ 15 k)))), (0, .int (zI k)), (1, .int (zI t)), (2, .ref (la 0)), (3, .ref (la 1)), (4, .ref (la 3)), (5, .ref (la 5))]) hx hb dL_reason_216 hl (k := 8) rfl (by decide) rfl (fun ls hl => ?_)
                refine lv_goto (tgt := 62) hx hb dL_reason_219 (by decide) ?_
                exact wo_hL2 _ _ _ _ _ (ih_hL2 (j + 1) ls (by exact fun o a b => if e9 : o = j then by rw [e9]; intro h1 h2 h3; simp only [zOv, zTk]; omega else hd2 o a (by omega)) (by omega) (by omega) (lv_sub hl [1, 2, 3, 4, 5, 6, 7, 8, 0] rfl))
              · refine lv_aload hx hb dL_reason_76 (lv_at hl 6 rfl) ?_
                refine lv_iload hx hb dL_reason_78 (lv_at hl 8 rfl) ?_
                refine l_ald hx hb hK hR 3 (by decide) (by show 0 ≤ j ∧ j < ((10 : Nat) : Int); omega) dL_reason_80 ?_
                refine z_top (b := pC σ j) (by rw [hT.c (i := j) (by omega)]) ?_
                refine z_cs (As := [.int (zI (pC σ j))]) (rest := []) ⟨hx, hb, hml, hown, hts⟩ (c_L_stateOf l D cI cO cL s.heap (pC σ j) (pC_r hI hB (i := j) (by omega))) (va_cwS 1 hts gL_reason_L_stateOf rfl rfl rfl (by decide +kernel) ⟨(Nat.le_of_ble_eq_true rfl), (Nat.le_of_ble_eq_true rfl)⟩) (zKK_mv D cI cO cL) (fun U _ hv => va_K.moved hv hK) rfl hl.1 rfl (Nat.le_of_ble_eq_true rfl) dL_reason_81 ⟨Nat.zero_le _, Nat.zero_le _⟩ (fun r_25 hr_25 => ?_)
                rw [hr_25, pC_t hI hB (i := j) (by omega)]
                refine z_iconst hx hb dL_reason_84 ?_
                refine z_icmp_lt (tgt := 216) hx hb dL_reason_85 (by decide) (by omega) (fun c_26 => ?_) (fun c_26 => ?_)
                · refine z_iinc (lv' := [(8, .int (zI (j + 1))), (7, .int (zI (σ 8 (σ 15 k)))), (6, .int (zI (pS σ (σ 15 k)))), (0, .int (zI k)), (1, .int (zI t)), (2, .ref (la 0)), (3, .ref (la 1)), (4, .ref (la 3)), (5, .ref (la 5))]) hx hb dL_reason_216 hl (k := 8) rfl (by decide) rfl (fun ls hl => ?_)
                  refine lv_goto (tgt := 62) hx hb dL_reason_219 (by decide) ?_
                  exact wo_hL2 _ _ _ _ _ (ih_hL2 (j + 1) ls (by exact fun o a b => if e9 : o = j then by rw [e9]; intro h1 h2 h3; simp only [zOv, zTk]; omega else hd2 o a (by omega)) (by omega) (by omega) (lv_sub hl [1, 2, 3, 4, 5, 6, 7, 8, 0] rfl))
                · refine lv_aload hx hb dL_reason_88 (lv_at hl 6 rfl) ?_
                  refine lv_iload hx hb dL_reason_90 (lv_at hl 8 rfl) ?_
                  refine l_ald hx hb hK hR 3 (by decide) (by show 0 ≤ j ∧ j < ((10 : Nat) : Int); omega) dL_reason_92 ?_
                  refine z_top (b := pC σ j) (by rw [hT.c (i := j) (by omega)]) ?_
                  refine z_cs (As := [.int (zI (pC σ j))]) (rest := []) ⟨hx, hb, hml, hown, hts⟩ (c_L_pilotOf l D cI cO cL s.heap (pC σ j) (pC_r hI hB (i := j) (by omega))) (va_cwS 1 hts gL_reason_L_pilotOf rfl rfl rfl (by decide +kernel) ⟨(Nat.le_of_ble_eq_true rfl), (Nat.le_of_ble_eq_true rfl)⟩) (zKK_mv D cI cO cL) (fun U _ hv => va_K.moved hv hK) rfl hl.1 rfl (Nat.le_of_ble_eq_true rfl) dL_reason_93 ⟨Nat.zero_le _, Nat.zero_le _⟩ (fun r_27 hr_27 => ?_)
                  rw [hr_27, pC_p hI hB (i := j) (by omega)]
                  refine lv_aload hx hb dL_reason_96 (lv_at hl 6 rfl) ?_
                  refine lv_iload_n hx hb dL_reason_98 rfl (lv_at hl 2 rfl) ?_
                  refine l_ald hx hb hK hR 3 (by decide) (by show 0 ≤ k ∧ k < ((10 : Nat) : Int); omega) dL_reason_99 ?_
                  refine z_top (b := pC σ k) (by rw [hT.c (i := k) (by omega)]) ?_
                  refine z_cs (As := [.int (zI (pC σ k))]) (rest := [.int (zI (σ 18 j))]) ⟨hx, hb, hml, hown, hts⟩ (c_L_pilotOf l D cI cO cL s.heap (pC σ k) (pC_r hI hB (i := k) (by omega))) (va_cwS 1 hts gL_reason_L_pilotOf rfl rfl rfl (by decide +kernel) ⟨(Nat.le_of_ble_eq_true rfl), (Nat.le_of_ble_eq_true rfl)⟩) (zKK_mv D cI cO cL) (fun U _ hv => va_K.moved hv hK) rfl hl.1 rfl (Nat.le_of_ble_eq_true rfl) dL_reason_100 ⟨Nat.zero_le _, Nat.zero_le _⟩ (fun r_28 hr_28 => ?_)
                  rw [hr_28, pC_p hI hB (i := k) (by omega)]
                  refine z_icmp_eq (tgt := 109) hx hb dL_reason_103 (by decide) (by omega) (fun c_29 => ?_) (fun c_29 => ?_)
                  · refine lv_aload_n hx hb dL_reason_109 rfl (lv_at hl 5 rfl) ?_
                    refine lv_aload hx hb dL_reason_110 (lv_at hl 6 rfl) ?_
                    refine lv_iload hx hb dL_reason_112 (lv_at hl 8 rfl) ?_
                    refine l_ald hx hb hK hR 3 (by decide) (by show 0 ≤ j ∧ j < ((10 : Nat) : Int); omega) dL_reason_114 ?_
                    refine z_top (b := pC σ j) (by rw [hT.c (i := j) (by omega)]) ?_
                    refine z_cs (As := [.int (zI (pC σ j))]) (rest := [.ref (la 1)]) ⟨hx, hb, hml, hown, hts⟩ (c_L_shipOf l D cI cO cL s.heap (pC σ j) (pC_r hI hB (i := j) (by omega))) (va_cwS 1 hts gL_reason_L_shipOf rfl rfl rfl (by decide +kernel) ⟨(Nat.le_of_ble_eq_true rfl), (Nat.le_of_ble_eq_true rfl)⟩) (zKK_mv D cI cO cL) (fun U _ hv => va_K.moved hv hK) rfl hl.1 rfl (Nat.le_of_ble_eq_true rfl) dL_reason_115 ⟨Nat.zero_le _, Nat.zero_le _⟩ (fun r_30 hr_30 => ?_)
                    rw [hr_30, pC_s hI hB (i := j) (by omega)]
                    refine l_ald hx hb hK hR 1 (by decide) (by show 0 ≤ (σ 15 j) ∧ (σ 15 j) < ((6 : Nat) : Int); omega) dL_reason_118 ?_
                    refine z_top (b := pS σ (σ 15 j)) (by rw [hT.s (i := (σ 15 j)) (by omega)]) ?_
                    refine z_cs (As := [.int (zI (pS σ (σ 15 j)))]) (rest := []) ⟨hx, hb, hml, hown, hts⟩ (c_L_takes l D cI cO cL s.heap (pS σ (σ 15 j)) (pS_r hI (i := (σ 15 j)) (by omega))) (va_cwS 1 hts gL_reason_L_takes rfl rfl rfl (by decide +kernel) ⟨(Nat.le_of_ble_eq_true rfl), (Nat.le_of_ble_eq_true rfl)⟩) (zKK_mv D cI cO cL) (fun U _ hv => va_K.moved hv hK) rfl hl.1 rfl (Nat.le_of_ble_eq_true rfl) dL_reason_119 ⟨Nat.zero_le _, Nat.zero_le _⟩ (fun r_31 hr_31 => ?_)
                    rw [hr_31, pS_t hI (i := (σ 15 j)) (by omega)]
                    refine lv_istore (lv' := [(9, .int (zI (σ 8 (σ 15 j)))), (7, .int (zI (σ 8 (σ 15 k)))), (6, .int (zI (pS σ (σ 15 k)))), (0, .int (zI k)), (1, .int (zI t)), (2, .ref (la 0)), (3, .ref (la 1)), (4, .ref (la 3)), (5, .ref (la 5)), (8, .int (zI j))]) hx hb dL_reason_122 hl (by decide) rfl (fun ls hl => ?_)
                    refine lv_aload hx hb dL_reason_124 (lv_at hl 8 rfl) ?_
                    refine lv_iload hx hb dL_reason_126 (lv_at hl 9 rfl) ?_
                    refine l_ald hx hb hK hR 5 (by decide) (by show 0 ≤ j ∧ j < ((10 : Nat) : Int); omega) dL_reason_128 ?_
                    refine z_top (b := σ 20 j) (by rw [hT.t (i := j) (by omega)]) ?_
                    refine lv_iload_n hx hb dL_reason_129 rfl (lv_at hl 4 rfl) ?_
                    refine z_icmp_ge (tgt := 137) hx hb dL_reason_130 (by decide) (by omega) (fun c_32 => ?_) (fun c_32 => ?_)
                    · refine z_iconst hx hb dL_reason_137 ?_
                      refine lv_istore (lv' := [(10, .int (zI 0)), (9, .int (zI (σ 8 (σ 15 j)))), (7, .int (zI (σ 8 (σ 15 k)))), (6, .int (zI (pS σ (σ 15 k)))), (0, .int (zI k)), (1, .int (zI t)), (2, .ref (la 0)), (3, .ref (la 1)), (4, .ref (la 3)), (5, .ref (la 5)), (8, .int (zI j))]) hx hb dL_reason_138 hl (by decide) rfl (fun ls hl => ?_)
                      refine lv_iload hx hb dL_reason_140 (lv_at hl 0 rfl) ?_
                      refine z_if_eq (tgt := 156) hx hb dL_reason_142 (by decide) (by omega) (fun c_33 => ?_) (fun c_33 => ?_)
                      · refine lv_iload_n hx hb dL_reason_156 rfl (lv_at hl 5 rfl) ?_
                        refine lv_iload hx hb dL_reason_157 (lv_at hl 2 rfl) ?_
                        refine z_iadd hx hb dL_reason_159 ?_
                        refine lv_istore (lv' := [(11, .int (zI (t + (σ 8 (σ 15 k))))), (10, .int (zI 0)), (9, .int (zI (σ 8 (σ 15 j)))), (7, .int (zI (σ 8 (σ 15 k)))), (6, .int (zI (pS σ (σ 15 k)))), (0, .int (zI k)), (1, .int (zI t)), (2, .ref (la 0)), (3, .ref (la 1)), (4, .ref (la 3)), (5, .ref (la 5)), (8, .int (zI j))]) hx hb dL_reason_160 hl (by decide) rfl (fun ls hl => ?_)
                        refine lv_iload hx hb dL_reason_162 (lv_at hl 1 rfl) ?_
                        refine z_if_eq (tgt := 172) hx hb dL_reason_164 (by decide) (by omega) (fun c_34 => ?_) (fun c_34 => ?_)
                        · refine lv_iload hx hb dL_reason_172 (lv_at hl 3 rfl) ?_
                          refine lv_istore (lv' := [(12, .int (zI (σ 8 (σ 15 k)))), (11, .int (zI (t + (σ 8 (σ 15 k))))), (10, .int (zI 0)), (9, .int (zI (σ 8 (σ 15 j)))), (7, .int (zI (σ 8 (σ 15 k)))), (6, .int (zI (pS σ (σ 15 k)))), (0, .int (zI k)), (1, .int (zI t)), (2, .ref (la 0)), (3, .ref (la 1)), (4, .ref (la 3)), (5, .ref (la 5)), (8, .int (zI j))]) hx hb dL_reason_174 hl (by decide) rfl (fun ls hl => ?_)
                          refine lv_iload hx hb dL_reason_176 (lv_at hl 1 rfl) ?_
                          refine lv_iload hx hb dL_reason_178 (lv_at hl 0 rfl) ?_
                          refine z_bipush hx hb dL_reason_180 (by decide +kernel) ?_
                          refine z_icmp_ge (tgt := 190) hx hb dL_reason_182 (by decide) (by omega) (fun c_35 => ?_) (fun c_35 => ?_)
                          · refine lv_iload hx hb dL_reason_190 (lv_at hl 0 rfl) ?_
                            refine z_iadd hx hb dL_reason_192 ?_
                            refine lv_istore (lv' := [(11, .int (zI ((t + (σ 8 (σ 15 k))) + (σ 8 (σ 15 k))))), (12, .int (zI (σ 8 (σ 15 k)))), (10, .int (zI 0)), (9, .int (zI (σ 8 (σ 15 j)))), (7, .int (zI (σ 8 (σ 15 k)))), (6, .int (zI (pS σ (σ 15 k)))), (0, .int (zI k)), (1, .int (zI t)), (2, .ref (la 0)), (3, .ref (la 1)), (4, .ref (la 3)), (5, .ref (la 5)), (8, .int (zI j))]) hx hb dL_reason_193 hl (by decide) rfl (fun ls hl => ?_)
                            refine lv_iload hx hb dL_reason_195 (lv_at hl 0 rfl) ?_
                            refine lv_iload hx hb dL_reason_197 (lv_at hl 2 rfl) ?_
                            refine z_if_eq (tgt := 206) hx hb dL_reason_199 (by decide) (by omega) (fun c_36 => ?_) (fun c_36 => ?_)
                            · refine lv_aload hx hb dL_reason_206 (lv_at hl 11 rfl) ?_
                              refine lv_iload hx hb dL_reason_208 (lv_at hl 12 rfl) ?_
                              refine l_ald hx hb hK hR 5 (by decide) (by show 0 ≤ j ∧ j < ((10 : Nat) : Int); omega) dL_reason_210 ?_
                              refine z_top (b := σ 20 j) (by rw [hT.t (i := j) (by omega)]) ?_
                              refine z_icmp_le (tgt := 216) hx hb dL_reason_211 (by decide) (by omega) (fun c_37 => ?_) (fun c_37 => ?_)
                              · refine z_iinc (lv' := [(8, .int (zI (j + 1))), (11, .int (zI ((t + (σ 8 (σ 15 k))) + (σ 8 (σ 15 k))))), (12, .int (zI (σ 8 (σ 15 k)))), (10, .int (zI 0)), (9, .int (zI (σ 8 (σ 15 j)))), (7, .int (zI (σ 8 (σ 15 k)))), (6, .int (zI (pS σ (σ 15 k)))), (0, .int (zI k)), (1, .int (zI t)), (2, .ref (la 0)), (3, .ref (la 1)), (4, .ref (la 3)), (5, .ref (la 5))]) hx hb dL_reason_216 hl (k := 12) rfl (by decide) rfl (fun ls hl => ?_)
                                refine lv_goto (tgt := 62) hx hb dL_reason_219 (by decide) ?_
                                exact wo_hL2 _ _ _ _ _ (ih_hL2 (j + 1) ls (by exact fun o a b => if e9 : o = j then by rw [e9]; intro h1 h2 h3; simp only [zOv, zTk]; omega else hd2 o a (by omega)) (by omega) (by omega) (lv_sub hl [5, 6, 7, 8, 9, 10, 11, 12, 0] rfl))
                              · refine z_iconst hx hb dL_reason_214 ?_
                                exact W.iret hx hb hr (z_end (post := fun r => r = .int (zI (zan_why σ k t))) (z_eq (a := 2) (b := zan_why σ k t) (by exact (zwhy_2 hTide (fun z => absurd (z j (by omega) (by omega) (by omega) (by omega) (by omega)) (by simp only [zOv, zTk]; omega))).symm))) (fun _ h => nomatch h) dL_reason_215
                            · exact absurd c_36 (by decide)
                          · refine z_bipush hx hb dL_reason_185 (by decide +kernel) ?_
                            refine lv_goto (tgt := 192) hx hb dL_reason_187 (by decide) ?_
                            refine z_iadd hx hb dL_reason_192 ?_
                            refine lv_istore (lv' := [(11, .int (zI ((t + (σ 8 (σ 15 k))) + 60))), (12, .int (zI (σ 8 (σ 15 k)))), (10, .int (zI 0)), (9, .int (zI (σ 8 (σ 15 j)))), (7, .int (zI (σ 8 (σ 15 k)))), (6, .int (zI (pS σ (σ 15 k)))), (0, .int (zI k)), (1, .int (zI t)), (2, .ref (la 0)), (3, .ref (la 1)), (4, .ref (la 3)), (5, .ref (la 5)), (8, .int (zI j))]) hx hb dL_reason_193 hl (by decide) rfl (fun ls hl => ?_)
                            refine lv_iload hx hb dL_reason_195 (lv_at hl 0 rfl) ?_
                            refine lv_iload hx hb dL_reason_197 (lv_at hl 2 rfl) ?_
                            refine z_if_eq (tgt := 206) hx hb dL_reason_199 (by decide) (by omega) (fun c_38 => ?_) (fun c_38 => ?_)
                            · refine lv_aload hx hb dL_reason_206 (lv_at hl 11 rfl) ?_
                              refine lv_iload hx hb dL_reason_208 (lv_at hl 12 rfl) ?_
                              refine l_ald hx hb hK hR 5 (by decide) (by show 0 ≤ j ∧ j < ((10 : Nat) : Int); omega) dL_reason_210 ?_
                              refine z_top (b := σ 20 j) (by rw [hT.t (i := j) (by omega)]) ?_
                              refine z_icmp_le (tgt := 216) hx hb dL_reason_211 (by decide) (by omega) (fun c_39 => ?_) (fun c_39 => ?_)
                              · refine z_iinc (lv' := [(8, .int (zI (j + 1))), (11, .int (zI ((t + (σ 8 (σ 15 k))) + 60))), (12, .int (zI (σ 8 (σ 15 k)))), (10, .int (zI 0)), (9, .int (zI (σ 8 (σ 15 j)))), (7, .int (zI (σ 8 (σ 15 k)))), (6, .int (zI (pS σ (σ 15 k)))), (0, .int (zI k)), (1, .int (zI t)), (2, .ref (la 0)), (3, .ref (la 1)), (4, .ref (la 3)), (5, .ref (la 5))]) hx hb dL_reason_216 hl (k := 12) rfl (by decide) rfl (fun ls hl => ?_)
                                refine lv_goto (tgt := 62) hx hb dL_reason_219 (by decide) ?_
                                exact wo_hL2 _ _ _ _ _ (ih_hL2 (j + 1) ls (by exact fun o a b => if e9 : o = j then by rw [e9]; intro h1 h2 h3; simp only [zOv, zTk]; omega else hd2 o a (by omega)) (by omega) (by omega) (lv_sub hl [5, 6, 7, 8, 9, 10, 11, 12, 0] rfl))
                              · refine z_iconst hx hb dL_reason_214 ?_
                                exact W.iret hx hb hr (z_end (post := fun r => r = .int (zI (zan_why σ k t))) (z_eq (a := 2) (b := zan_why σ k t) (by exact (zwhy_2 hTide (fun z => absurd (z j (by omega) (by omega) (by omega) (by omega) (by omega)) (by simp only [zOv, zTk]; omega))).symm))) (fun _ h => nomatch h) dL_reason_215
                            · exact absurd c_38 (by decide)
                        · exact absurd c_34 (by decide)
                      · exact absurd c_33 (by decide)
                    · refine z_iconst hx hb dL_reason_133 ?_
                      refine lv_goto (tgt := 138) hx hb dL_reason_134 (by decide) ?_
                      refine lv_istore (lv' := [(10, .int (zI 1)), (9, .int (zI (σ 8 (σ 15 j)))), (7, .int (zI (σ 8 (σ 15 k)))), (6, .int (zI (pS σ (σ 15 k)))), (0, .int (zI k)), (1, .int (zI t)), (2, .ref (la 0)), (3, .ref (la 1)), (4, .ref (la 3)), (5, .ref (la 5)), (8, .int (zI j))]) hx hb dL_reason_138 hl (by decide) rfl (fun ls hl => ?_)
                      refine lv_iload hx hb dL_reason_140 (lv_at hl 0 rfl) ?_
                      refine z_if_eq (tgt := 156) hx hb dL_reason_142 (by decide) (by omega) (fun c_40 => ?_) (fun c_40 => ?_)
                      · exact absurd c_40 (by decide)
                      · refine lv_aload hx hb dL_reason_145 (lv_at hl 9 rfl) ?_
                        refine lv_iload hx hb dL_reason_147 (lv_at hl 10 rfl) ?_
                        refine l_ald hx hb hK hR 5 (by decide) (by show 0 ≤ j ∧ j < ((10 : Nat) : Int); omega) dL_reason_149 ?_
                        refine z_top (b := σ 20 j) (by rw [hT.t (i := j) (by omega)]) ?_
                        refine lv_iload hx hb dL_reason_150 (lv_at hl 1 rfl) ?_
                        refine z_iadd hx hb dL_reason_152 ?_
                        refine lv_goto (tgt := 160) hx hb dL_reason_153 (by decide) ?_
                        refine lv_istore (lv' := [(11, .int (zI ((σ 20 j) + (σ 8 (σ 15 j))))), (10, .int (zI 1)), (9, .int (zI (σ 8 (σ 15 j)))), (7, .int (zI (σ 8 (σ 15 k)))), (6, .int (zI (pS σ (σ 15 k)))), (0, .int (zI k)), (1, .int (zI t)), (2, .ref (la 0)), (3, .ref (la 1)), (4, .ref (la 3)), (5, .ref (la 5)), (8, .int (zI j))]) hx hb dL_reason_160 hl (by decide) rfl (fun ls hl => ?_)
                        refine lv_iload hx hb dL_reason_162 (lv_at hl 1 rfl) ?_
                        refine z_if_eq (tgt := 172) hx hb dL_reason_164 (by decide) (by omega) (fun c_41 => ?_) (fun c_41 => ?_)
                        · exact absurd c_41 (by decide)
                        · refine lv_iload hx hb dL_reason_167 (lv_at hl 2 rfl) ?_
                          refine lv_goto (tgt := 174) hx hb dL_reason_169 (by decide) ?_
                          refine lv_istore (lv' := [(12, .int (zI (σ 8 (σ 15 j)))), (11, .int (zI ((σ 20 j) + (σ 8 (σ 15 j))))), (10, .int (zI 1)), (9, .int (zI (σ 8 (σ 15 j)))), (7, .int (zI (σ 8 (σ 15 k)))), (6, .int (zI (pS σ (σ 15 k)))), (0, .int (zI k)), (1, .int (zI t)), (2, .ref (la 0)), (3, .ref (la 1)), (4, .ref (la 3)), (5, .ref (la 5)), (8, .int (zI j))]) hx hb dL_reason_174 hl (by decide) rfl (fun ls hl => ?_)
                          refine lv_iload hx hb dL_reason_176 (lv_at hl 1 rfl) ?_
                          refine lv_iload hx hb dL_reason_178 (lv_at hl 0 rfl) ?_
                          refine z_bipush hx hb dL_reason_180 (by decide +kernel) ?_
                          refine z_icmp_ge (tgt := 190) hx hb dL_reason_182 (by decide) (by omega) (fun c_42 => ?_) (fun c_42 => ?_)
                          · refine lv_iload hx hb dL_reason_190 (lv_at hl 0 rfl) ?_
                            refine z_iadd hx hb dL_reason_192 ?_
                            refine lv_istore (lv' := [(11, .int (zI (((σ 20 j) + (σ 8 (σ 15 j))) + (σ 8 (σ 15 j))))), (12, .int (zI (σ 8 (σ 15 j)))), (10, .int (zI 1)), (9, .int (zI (σ 8 (σ 15 j)))), (7, .int (zI (σ 8 (σ 15 k)))), (6, .int (zI (pS σ (σ 15 k)))), (0, .int (zI k)), (1, .int (zI t)), (2, .ref (la 0)), (3, .ref (la 1)), (4, .ref (la 3)), (5, .ref (la 5)), (8, .int (zI j))]) hx hb dL_reason_193 hl (by decide) rfl (fun ls hl => ?_)
                            refine lv_iload hx hb dL_reason_195 (lv_at hl 0 rfl) ?_
                            refine lv_iload hx hb dL_reason_197 (lv_at hl 2 rfl) ?_
                            refine z_if_eq (tgt := 206) hx hb dL_reason_199 (by decide) (by omega) (fun c_43 => ?_) (fun c_43 => ?_)
                            · exact absurd c_43 (by decide)
                            · refine lv_iload_n hx hb dL_reason_202 rfl (lv_at hl 7 rfl) ?_
                              refine lv_goto (tgt := 211) hx hb dL_reason_203 (by decide) ?_
                              refine z_icmp_le (tgt := 216) hx hb dL_reason_211 (by decide) (by omega) (fun c_44 => ?_) (fun c_44 => ?_)
                              · refine z_iinc (lv' := [(8, .int (zI (j + 1))), (11, .int (zI (((σ 20 j) + (σ 8 (σ 15 j))) + (σ 8 (σ 15 j))))), (12, .int (zI (σ 8 (σ 15 j)))), (10, .int (zI 1)), (9, .int (zI (σ 8 (σ 15 j)))), (7, .int (zI (σ 8 (σ 15 k)))), (6, .int (zI (pS σ (σ 15 k)))), (0, .int (zI k)), (1, .int (zI t)), (2, .ref (la 0)), (3, .ref (la 1)), (4, .ref (la 3)), (5, .ref (la 5))]) hx hb dL_reason_216 hl (k := 12) rfl (by decide) rfl (fun ls hl => ?_)
                                refine lv_goto (tgt := 62) hx hb dL_reason_219 (by decide) ?_
                                exact wo_hL2 _ _ _ _ _ (ih_hL2 (j + 1) ls (by exact fun o a b => if e9 : o = j then by rw [e9]; intro h1 h2 h3; simp only [zOv, zTk]; omega else hd2 o a (by omega)) (by omega) (by omega) (lv_sub hl [5, 6, 7, 8, 9, 10, 11, 12, 0] rfl))
                              · refine z_iconst hx hb dL_reason_214 ?_
                                exact W.iret hx hb hr (z_end (post := fun r => r = .int (zI (zan_why σ k t))) (z_eq (a := 2) (b := zan_why σ k t) (by exact (zwhy_2 hTide (fun z => absurd (z j (by omega) (by omega) (by omega) (by omega) (by omega)) (by simp only [zOv, zTk]; omega))).symm))) (fun _ h => nomatch h) dL_reason_215
                          · refine z_bipush hx hb dL_reason_185 (by decide +kernel) ?_
                            refine lv_goto (tgt := 192) hx hb dL_reason_187 (by decide) ?_
                            refine z_iadd hx hb dL_reason_192 ?_
                            refine lv_istore (lv' := [(11, .int (zI (((σ 20 j) + (σ 8 (σ 15 j))) + 60))), (12, .int (zI (σ 8 (σ 15 j)))), (10, .int (zI 1)), (9, .int (zI (σ 8 (σ 15 j)))), (7, .int (zI (σ 8 (σ 15 k)))), (6, .int (zI (pS σ (σ 15 k)))), (0, .int (zI k)), (1, .int (zI t)), (2, .ref (la 0)), (3, .ref (la 1)), (4, .ref (la 3)), (5, .ref (la 5)), (8, .int (zI j))]) hx hb dL_reason_193 hl (by decide) rfl (fun ls hl => ?_)
                            refine lv_iload hx hb dL_reason_195 (lv_at hl 0 rfl) ?_
                            refine lv_iload hx hb dL_reason_197 (lv_at hl 2 rfl) ?_
                            refine z_if_eq (tgt := 206) hx hb dL_reason_199 (by decide) (by omega) (fun c_45 => ?_) (fun c_45 => ?_)
                            · exact absurd c_45 (by decide)
                            · refine lv_iload_n hx hb dL_reason_202 rfl (lv_at hl 7 rfl) ?_
                              refine lv_goto (tgt := 211) hx hb dL_reason_203 (by decide) ?_
                              refine z_icmp_le (tgt := 216) hx hb dL_reason_211 (by decide) (by omega) (fun c_46 => ?_) (fun c_46 => ?_)
                              · refine z_iinc (lv' := [(8, .int (zI (j + 1))), (11, .int (zI (((σ 20 j) + (σ 8 (σ 15 j))) + 60))), (12, .int (zI (σ 8 (σ 15 j)))), (10, .int (zI 1)), (9, .int (zI (σ 8 (σ 15 j)))), (7, .int (zI (σ 8 (σ 15 k)))), (6, .int (zI (pS σ (σ 15 k)))), (0, .int (zI k)), (1, .int (zI t)), (2, .ref (la 0)), (3, .ref (la 1)), (4, .ref (la 3)), (5, .ref (la 5))]) hx hb dL_reason_216 hl (k := 12) rfl (by decide) rfl (fun ls hl => ?_)
                                refine lv_goto (tgt := 62) hx hb dL_reason_219 (by decide) ?_
                                exact wo_hL2 _ _ _ _ _ (ih_hL2 (j + 1) ls (by exact fun o a b => if e9 : o = j then by rw [e9]; intro h1 h2 h3; simp only [zOv, zTk]; omega else hd2 o a (by omega)) (by omega) (by omega) (lv_sub hl [5, 6, 7, 8, 9, 10, 11, 12, 0] rfl))
                              · refine z_iconst hx hb dL_reason_214 ?_
                                exact W.iret hx hb hr (z_end (post := fun r => r = .int (zI (zan_why σ k t))) (z_eq (a := 2) (b := zan_why σ k t) (by exact (zwhy_2 hTide (fun z => absurd (z j (by omega) (by omega) (by omega) (by omega) (by omega)) (by simp only [zOv, zTk]; omega))).symm))) (fun _ h => nomatch h) dL_reason_215
                  · refine lv_goto (tgt := 216) hx hb dL_reason_106 (by decide) ?_
                    refine z_iinc (lv' := [(8, .int (zI (j + 1))), (7, .int (zI (σ 8 (σ 15 k)))), (6, .int (zI (pS σ (σ 15 k)))), (0, .int (zI k)), (1, .int (zI t)), (2, .ref (la 0)), (3, .ref (la 1)), (4, .ref (la 3)), (5, .ref (la 5))]) hx hb dL_reason_216 hl (k := 8) rfl (by decide) rfl (fun ls hl => ?_)
                    refine lv_goto (tgt := 62) hx hb dL_reason_219 (by decide) ?_
                    exact wo_hL2 _ _ _ _ _ (ih_hL2 (j + 1) ls (by exact fun o a b => if e9 : o = j then by rw [e9]; intro h1 h2 h3; simp only [zOv, zTk]; omega else hd2 o a (by omega)) (by omega) (by omega) (lv_sub hl [1, 2, 3, 4, 5, 6, 7, 8, 0] rfl))
        exact wo_hL2 _ _ _ _ _ (hL2 _ 0 ls (by intro o a b; omega) (by omega) (Nat.lt_succ_self _) (lv_sub hl [1, 2, 3, 4, 5, 6, 7, 8, 0] rfl))
      · refine lv_aload_n hx hb dL_reason_30 rfl (lv_at hl 4 rfl) ?_
        refine z_iconst hx hb dL_reason_31 ?_
        refine l_ald hx hb hK hR 0 (by decide) (by show 0 ≤ 1 ∧ 1 < ((6 : Nat) : Int); omega) dL_reason_32 ?_
        refine z_top (b := σ 2 0) (by rw [hT.g1]) ?_
        refine lv_iload hx hb dL_reason_33 (lv_at hl 8 rfl) ?_
        refine lv_aload_n hx hb dL_reason_35 rfl (lv_at hl 4 rfl) ?_
        refine z_cs (As := [.int (zI i), .ref (la 0)]) (rest := [.int (zI (σ 2 0))]) ⟨hx, hb, hml, hown, hts⟩ (c_L_tideAt l D cI cO cL la τ σ s.heap hR i hI hT (by omega)) (va_cwS 2 hts gL_reason_L_tideAt rfl rfl rfl (by decide +kernel) ⟨(Nat.le_of_ble_eq_true rfl), (Nat.le_of_ble_eq_true rfl)⟩) (zKK_mv D cI cO cL) (fun U _ hv => va_K.moved hv hK) rfl hl.1 rfl (Nat.le_of_ble_eq_true rfl) dL_reason_36 ⟨Nat.zero_le _, Nat.zero_le _⟩ (fun r_47 hr_47 => ?_)
        rw [hr_47]
        refine z_iadd hx hb dL_reason_39 ?_
        refine z_bipush hx hb dL_reason_40 (by decide +kernel) ?_
        refine z_isub hx hb dL_reason_42 ?_
        refine lv_iload hx hb dL_reason_43 (lv_at hl 1 rfl) ?_
        refine z_cs (As := [.int (zI (pS σ (σ 15 k)))]) (rest := [.int (zI (((σ 2 0) + (zLev σ i)) - 10))]) ⟨hx, hb, hml, hown, hts⟩ (c_L_draught l D cI cO cL s.heap (pS σ (σ 15 k)) (pS_r hI (i := (σ 15 k)) (by omega))) (va_cwS 1 hts gL_reason_L_draught rfl rfl rfl (by decide +kernel) ⟨(Nat.le_of_ble_eq_true rfl), (Nat.le_of_ble_eq_true rfl)⟩) (zKK_mv D cI cO cL) (fun U _ hv => va_K.moved hv hK) rfl hl.1 rfl (Nat.le_of_ble_eq_true rfl) dL_reason_45 ⟨Nat.zero_le _, Nat.zero_le _⟩ (fun r_48 hr_48 => ?_)
        rw [hr_48, pS_d hI (i := (σ 15 k)) (by omega)]
        refine z_icmp_ge (tgt := 53) hx hb dL_reason_48 (by decide) (by omega) (fun c_49 => ?_) (fun c_49 => ?_)
        · refine z_iinc (lv' := [(8, .int (zI (i + 1))), (7, .int (zI (σ 8 (σ 15 k)))), (6, .int (zI (pS σ (σ 15 k)))), (0, .int (zI k)), (1, .int (zI t)), (2, .ref (la 0)), (3, .ref (la 1)), (4, .ref (la 3)), (5, .ref (la 5))]) hx hb dL_reason_53 hl (k := 8) rfl (by decide) rfl (fun ls hl => ?_)
          refine lv_goto (tgt := 21) hx hb dL_reason_56 (by decide) ?_
          exact wo_hL _ _ _ _ _ (ih_hL (i + 1) ls (by exact fun o a b => if e9 : o = i then by rw [e9]; omega else hd o a (by omega)) (by omega) (by omega) (lv_sub hl [1, 2, 3, 4, 5, 6, 7, 8, 0] rfl))
        · refine z_iconst hx hb dL_reason_51 ?_
          exact W.iret hx hb hr (z_end (post := fun r => r = .int (zI (zan_why σ k t))) (z_eq (a := 1) (b := zan_why σ k t) (by exact (zwhy_1 (fun z => absurd (z i (by omega) (by omega)) (by omega))).symm))) (fun _ h => nomatch h) dL_reason_52
  exact wo_hL _ _ _ _ _ (hL _ t ls (by intro mm a b; omega) (by omega) (Nat.lt_succ_self _) (lv_sub hl [1, 2, 3, 4, 5, 6, 7, 8, 0] rfl))
