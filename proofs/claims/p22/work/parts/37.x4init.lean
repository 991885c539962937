/-! the class: its own constructor -/
theorem lk_X4_init_7 : Cond.classLink RX4 7 RX3 ∈ wsX4_init := by decide +kernel
theorem lk_X4_init_i3 : Cond.instantiable RX3 2 ∈ wsX4_init := by decide +kernel
theorem lk_X4_init_n3 : Cond.initialized RX3 ∈ wsX4_init := by decide +kernel
theorem lk_X4_init_16 : Cond.classLink RX4 16 RJx4a65c ∈ wsX4_init := by decide +kernel
theorem lk_X4_init_ij : Cond.instantiable RJx4a65c 3 ∈ wsX4_init := by decide +kernel
theorem lk_X4_init_nj : Cond.initialized RJx4a65c ∈ wsX4_init := by decide +kernel
theorem lk_X4_init_m3 : Cond.instanceMethod yX3_init ∈ wsX4_init := by decide +kernel
theorem lk_X4_init_mj : Cond.instanceMethod yJx4a65c_init_da8c8 ∈ wsX4_init := by decide +kernel
theorem lk_X4_init_18 : Cond.methodLink RX4 18 yJx4a65c_init_da8c8 ∈ wsX4_init := by decide +kernel
theorem lk_X4_init_10 : Cond.fieldLink RX4 10 "HarbourPilotline" "tide" "LHarbourPilotline$Tide;" ∈ wsX4_init := by decide +kernel
theorem lk_X4_init_19 : Cond.fieldLink RX4 19 "HarbourPilotline" "ships" "Ljava/util/ArrayList;" ∈ wsX4_init := by decide +kernel
theorem lk_X4_init_23 : Cond.fieldLink RX4 23 "HarbourPilotline" "pilots" "Ljava/util/ArrayList;" ∈ wsX4_init := by decide +kernel
theorem lk_X4_init_26 : Cond.fieldLink RX4 26 "HarbourPilotline" "conferences" "Ljava/util/ArrayList;" ∈ wsX4_init := by decide +kernel
theorem lk_X4_init_29 : Cond.fieldLink RX4 29 "HarbourPilotline" "tugs" "I" ∈ wsX4_init := by decide +kernel
theorem in_X4_init_X3 : ∀ w ∈ wsX30, w ∈ wsX4_init := by decide +kernel
theorem in_X4_init_X4 : ∀ w ∈ wsX40, w ∈ wsX4_init := by decide +kernel
theorem in_X4_init_Jx4a65c : ∀ w ∈ wsJx4a65c0, w ∈ wsX4_init := by decide +kernel
set_option maxRecDepth 100000 in
set_option maxHeartbeats 4000000 in
theorem c_X4_init (l : Launch) (D : va_G) (cI cO cL : ClassId) (A : Nat → Prop) (eE mi : Nat) (sa : Nat → Nat) (H0 : Heap) (b : Nat) (hA : A b) (hO : va_at D vwCl (b, .inr (5, [.null, .null, .null, .null, .int (zI 0), .int (zI 0), .int (zI 0)])) H0) : zGM l yX4_init wsX4_init ({ frames := 4, cells := 4, slots := 11, locals := 100 }) D cI cO cL A eE mi sa [.ref b] H0 (fun rv H1 => rv = none ∧ ∃ g : zG, g 0 0 = b ∧ RX D cO A eE g zInit H1 ∧ H0.size ≤ H1.size ∧ ∀ q : Nat, q < H0.size → q ≠ b → H1[q]? = H0[q]?) (fun q => q = b ∨ H0.size ≤ q) := by
  refine Met.ofW (cc := cX4_init) (maxL := 1) (ret := none) (by decide) rfl ?_
  intro p e s m args below meth c s₁ B hml hv
  obtain ⟨rfl, hH, hG⟩ := hv
  subst hH
  have hK := hG.k
  have hx := B.exec
  have hb := B.bytes
  have hr := B.returns
  have hts := atoms_spec (ws := wsX4_init) B.pre
  have hown : s.vm.findClass RX4 = some m.cls := findClass_of_methodNamed B.named
  have hlocks := B.notSynchronized
  have hin : meth.name = "<init>" := (name_of_methodNamed B.named B.method).1
  have hl := lv_entry ([.ref b]) (n := 1) (Nat.le_of_ble_eq_true rfl)
  rw [lg_entry_eq]
  generalize (lg_sl ([.ref b]) ++ List.replicate (1 - (lg_sl ([.ref b])).length) Slot.unset).toArray = ls at hl ⊢
  have hl : lv_has ls 1 [(0, .ref b)] := hl
  have hbl := z_lt hO
  have hAF : ∀ q : Nat, (q = b ∨ s.heap.size ≤ q) → A q := fun q hq => by
    rcases hq with z | z
    · rw [z]; exact hA
    · exact hG.2.2.2.2.1 q z
  refine lv_aload_n hx hb dX4_init_0 rfl (lv_at hl 0 rfl) ?_
  refine W.objInit hx hb hown (hts (.methodLink RX4 1 objectInit) (by decide +kernel)) (hts (.instanceMethod objectInit) (by decide +kernel)) (hts _ (List.mem_cons_of_mem _ (List.mem_append_left _ (List.mem_append_left _ (List.mem_append_left _ (List.mem_append_left _ (List.mem_of_getElem? (i := 2) rfl))))))) rfl (by rw [hml]; exact hl.1) rfl dX4_init_1 (Nat.le_of_ble_eq_true rfl) (Nat.le_of_ble_eq_true rfl) ?_
  refine W.eq (g2 := F0 m 4 ls []) rfl ?_
  refine lv_aload_n hx hb dX4_init_4 rfl (lv_at hl 0 rfl) ?_
  refine z_new hx hb hts in_X4_init_X3 tyX3 tyX3_ok hown lk_X4_init_7 lk_X4_init_i3 lk_X4_init_n3 hK (va_S.rf (A := fun q => q = b ∨ s.heap.size ≤ q) (H0 := s.heap)) (ci := 4) rfl (fs := [.int (zI 0), .int (zI 0)]) (by intro j hj; match j, hj with | 0, _ => rfl | 1, _ => rfl | n9 + 2, h9 => exact absurd h9 (by omega)) (Nat.le_of_ble_eq_true rfl) (Nat.le_of_ble_eq_true rfl) dX4_init_5 (fun HN1 hN1 zN1 oN1 sN1 => ?_)
  refine lv_dup hx hb dX4_init_8 rfl ?_
  refine z_gN (As := []) (rest := [.ref s.heap.size, .ref b]) ⟨hx, hb, hml, hown, hts⟩ (c_X3_init l D cI cO cL A eE mi sa HN1 _ hN1) ⟨va_cnB 0 hts gX4_init_X3_init_n9 rfl rfl rfl hG.2.2.2.2.2.2.2.2.2.2.2.1.1 (hts _ lk_X4_init_n3) (by decide +kernel) ⟨(Nat.le_of_ble_eq_true rfl), (Nat.le_of_ble_eq_true rfl)⟩, rfl, hts _ lk_X4_init_m3⟩ hG (z_Smono hAF sN1) rfl hl.1 rfl (Nat.le_of_ble_eq_true rfl) dX4_init_9 ⟨(Nat.le_of_ble_eq_true rfl), (Nat.le_of_ble_eq_true rfl)⟩ (fun r1 HI1 LI1 pI1 fI1 => ?_)
  obtain ⟨eI1, aI1, zI1, kI1⟩ := pI1
  rw [eI1]
  have nV1 : s.heap.size ≤ s.heap.size := Nat.le_refl _
  have sI1 : va_S (fun q => q = b ∨ s.heap.size ≤ q) s.heap HI1 (_ ++ LI1) := ⟨by rw [zI1]; exact sN1.1, fun q h1 h2 => (kI1 q (by omega)).trans (sN1.2.1 q h1 h2), fun q hq => by
    rcases List.mem_append.mp hq with z | z
    · exact sN1.2.2 q z
    · have z2 : q.base = s.heap.size := fI1 q z
      exact Or.inr (by rw [z2]; exact nV1)⟩
  have hO : va_at D vwCl (b, .inr (5, [.null, .null, .null, .null, .int (zI 0), .int (zI 0), .int (zI 0)])) HI1 := hO.kept ((kI1 b (by omega)).trans (oN1 b (by omega)))
  refine z_putF (A := fun q => q = b ∨ s.heap.size ≤ q) hx hb hts in_X4_init_X4 tyX4 tyX4_ok nmX4 hown hK hO (Or.inl rfl) sI1 rfl 0 (by decide) lk_X4_init_10 rfl rfl hin rfl rfl rfl (Nat.le_of_ble_eq_true rfl) dX4_init_12 (fun HP1 lP1 aP1 zP1 oP1 sP1 => ?_)
  have hO : va_at D vwCl (b, .inr (5, [.ref s.heap.size, .null, .null, .null, .int (zI 0), .int (zI 0), .int (zI 0)])) HP1 := aP1
  have hz1 : HP1.size = s.heap.size + 1 := by omega
  have hk1 : ∀ q : Nat, q < s.heap.size → q ≠ b → HP1[q]? = s.heap[q]? := fun q h1 h2 => (oP1 q h2).trans ((kI1 q (by omega)).trans (oN1 q h1))
  have hT1 : va_at D vwCl (s.heap.size, .inr (4, [.int (zI 100), .int (zI 40)])) HP1 := aI1.kept (oP1 _ (by omega))
  refine lv_aload_n hx hb dX4_init_15 rfl (lv_at hl 0 rfl) ?_
  refine z_new hx hb hts in_X4_init_Jx4a65c tyJx4a65c tyJx4a65c_ok hown lk_X4_init_16 lk_X4_init_ij lk_X4_init_nj hK sP1 (ci := 0) rfl (fs := [.int (zI 0), .null, .int (zI 0)]) (by intro j hj; match j, hj with | 0, _ => rfl | 1, _ => rfl | 2, _ => rfl | n9 + 3, h9 => exact absurd h9 (by omega)) (Nat.le_of_ble_eq_true rfl) (Nat.le_of_ble_eq_true rfl) dX4_init_16 (fun HN2 hN2 zN2 oN2 sN2 => ?_)
  refine lv_dup hx hb dX4_init_19 rfl ?_
  refine z_gI (As := []) (rest := [.ref HP1.size, .ref b]) ⟨hx, hb, hml, hown, hts⟩ (c_Jx4a65c_init_da8c8 l D cI cO cL A eE mi sa HN2 _ (hAF _ (Or.inr (by omega))) hN2) (cwI 0 hts gX4_init_Jx4a65c_init_da8c8 rfl rfl rfl (hts _ lk_X4_init_nj) (hts _ lk_X4_init_18) (hts _ lk_X4_init_mj) rfl (by decide +kernel) ⟨(Nat.le_of_ble_eq_true rfl), (Nat.le_of_ble_eq_true rfl)⟩) hG (z_Smono hAF sN2) rfl hl.1 rfl (Nat.le_of_ble_eq_true rfl) dX4_init_20 ⟨(Nat.le_of_ble_eq_true rfl), (Nat.le_of_ble_eq_true rfl)⟩ (fun r2 HI2 LI2 pI2 fI2 => ?_)
  obtain ⟨eI2, aI2, zI2, kI2⟩ := pI2
  rw [eI2]
  have nV2 : s.heap.size ≤ HP1.size := by omega
  have sI2 : va_S (fun q => q = b ∨ s.heap.size ≤ q) s.heap HI2 (_ ++ LI2) := ⟨by rw [zI2]; exact sN2.1, fun q h1 h2 => (kI2 q (by omega)).trans (sN2.2.1 q h1 h2), fun q hq => by
    rcases List.mem_append.mp hq with z | z
    · exact sN2.2.2 q z
    · have z2 : q.base = HP1.size := fI2 q z
      exact Or.inr (by rw [z2]; exact nV2)⟩
  have hO : va_at D vwCl (b, .inr (5, [.ref s.heap.size, .null, .null, .null, .int (zI 0), .int (zI 0), .int (zI 0)])) HI2 := hO.kept ((kI2 b (by omega)).trans (oN2 b (by omega)))
  refine z_putF (A := fun q => q = b ∨ s.heap.size ≤ q) hx hb hts in_X4_init_X4 tyX4 tyX4_ok nmX4 hown hK hO (Or.inl rfl) sI2 rfl 1 (by decide) lk_X4_init_19 rfl rfl hin rfl rfl rfl (Nat.le_of_ble_eq_true rfl) dX4_init_23 (fun HP2 lP2 aP2 zP2 oP2 sP2 => ?_)
  have hO : va_at D vwCl (b, .inr (5, [.ref s.heap.size, .ref HP1.size, .null, .null, .int (zI 0), .int (zI 0), .int (zI 0)])) HP2 := aP2
  have hz2 : HP2.size = HP1.size + 1 := by omega
  have hk2 : ∀ q : Nat, q < HP1.size → q ≠ b → HP2[q]? = HP1[q]? := fun q h1 h2 => (oP2 q h2).trans ((kI2 q (by omega)).trans (oN2 q h1))
  have hT2 : va_at D vwCl (HP1.size, .inr (0, [.int (zI 0), .ref eE, .int (zI 0)])) HP2 := aI2.kept (oP2 _ (by omega))
  have hT1 := hT1.kept (H1 := HP2) (hk2 _ (z_lt hT1) (by show s.heap.size ≠ b; omega))
  refine lv_aload_n hx hb dX4_init_26 rfl (lv_at hl 0 rfl) ?_
  refine z_new hx hb hts in_X4_init_Jx4a65c tyJx4a65c tyJx4a65c_ok hown lk_X4_init_16 lk_X4_init_ij lk_X4_init_nj hK sP2 (ci := 0) rfl (fs := [.int (zI 0), .null, .int (zI 0)]) (by intro j hj; match j, hj with | 0, _ => rfl | 1, _ => rfl | 2, _ => rfl | n9 + 3, h9 => exact absurd h9 (by omega)) (Nat.le_of_ble_eq_true rfl) (Nat.le_of_ble_eq_true rfl) dX4_init_27 (fun HN3 hN3 zN3 oN3 sN3 => ?_)
  refine lv_dup hx hb dX4_init_30 rfl ?_
  refine z_gI (As := []) (rest := [.ref HP2.size, .ref b]) ⟨hx, hb, hml, hown, hts⟩ (c_Jx4a65c_init_da8c8 l D cI cO cL A eE mi sa HN3 _ (hAF _ (Or.inr (by omega))) hN3) (cwI 0 hts gX4_init_Jx4a65c_init_da8c8 rfl rfl rfl (hts _ lk_X4_init_nj) (hts _ lk_X4_init_18) (hts _ lk_X4_init_mj) rfl (by decide +kernel) ⟨(Nat.le_of_ble_eq_true rfl), (Nat.le_of_ble_eq_true rfl)⟩) hG (z_Smono hAF sN3) rfl hl.1 rfl (Nat.le_of_ble_eq_true rfl) dX4_init_31 ⟨(Nat.le_of_ble_eq_true rfl), (Nat.le_of_ble_eq_true rfl)⟩ (fun r3 HI3 LI3 pI3 fI3 => ?_)
  obtain ⟨eI3, aI3, zI3, kI3⟩ := pI3
  rw [eI3]
  have nV3 : s.heap.size ≤ HP2.size := by omega
  have sI3 : va_S (fun q => q = b ∨ s.heap.size ≤ q) s.heap HI3 (_ ++ LI3) := ⟨by rw [zI3]; exact sN3.1, fun q h1 h2 => (kI3 q (by omega)).trans (sN3.2.1 q h1 h2), fun q hq => by
    rcases List.mem_append.mp hq with z | z
    · exact sN3.2.2 q z
    · have z2 : q.base = HP2.size := fI3 q z
      exact Or.inr (by rw [z2]; exact nV3)⟩
  have hO : va_at D vwCl (b, .inr (5, [.ref s.heap.size, .ref HP1.size, .null, .null, .int (zI 0), .int (zI 0), .int (zI 0)])) HI3 := hO.kept ((kI3 b (by omega)).trans (oN3 b (by omega)))
  refine z_putF (A := fun q => q = b ∨ s.heap.size ≤ q) hx hb hts in_X4_init_X4 tyX4 tyX4_ok nmX4 hown hK hO (Or.inl rfl) sI3 rfl 2 (by decide) lk_X4_init_23 rfl rfl hin rfl rfl rfl (Nat.le_of_ble_eq_true rfl) dX4_init_34 (fun HP3 lP3 aP3 zP3 oP3 sP3 => ?_)
  have hO : va_at D vwCl (b, .inr (5, [.ref s.heap.size, .ref HP1.size, .ref HP2.size, .null, .int (zI 0), .int (zI 0), .int (zI 0)])) HP3 := aP3
  have hz3 : HP3.size = HP2.size + 1 := by omega
  have hk3 : ∀ q : Nat, q < HP2.size → q ≠ b → HP3[q]? = HP2[q]? := fun q h1 h2 => (oP3 q h2).trans ((kI3 q (by omega)).trans (oN3 q h1))
  have hT3 : va_at D vwCl (HP2.size, .inr (0, [.int (zI 0), .ref eE, .int (zI 0)])) HP3 := aI3.kept (oP3 _ (by omega))
  have hT1 := hT1.kept (H1 := HP3) (hk3 _ (z_lt hT1) (by show s.heap.size ≠ b; omega))
  have hT2 := hT2.kept (H1 := HP3) (hk3 _ (z_lt hT2) (by show HP1.size ≠ b; omega))
  refine lv_aload_n hx hb dX4_init_37 rfl (lv_at hl 0 rfl) ?_
  refine z_new hx hb hts in_X4_init_Jx4a65c tyJx4a65c tyJx4a65c_ok hown lk_X4_init_16 lk_X4_init_ij lk_X4_init_nj hK sP3 (ci := 0) rfl (fs := [.int (zI 0), .null, .int (zI 0)]) (by intro j hj; match j, hj with | 0, _ => rfl | 1, _ => rfl | 2, _ => rfl | n9 + 3, h9 => exact absurd h9 (by omega)) (Nat.le_of_ble_eq_true rfl) (Nat.le_of_ble_eq_true rfl) dX4_init_38 (fun HN4 hN4 zN4 oN4 sN4 => ?_)
  refine lv_dup hx hb dX4_init_41 rfl ?_
  refine z_gI (As := []) (rest := [.ref HP3.size, .ref b]) ⟨hx, hb, hml, hown, hts⟩ (c_Jx4a65c_init_da8c8 l D cI cO cL A eE mi sa HN4 _ (hAF _ (Or.inr (by omega))) hN4) (cwI 0 hts gX4_init_Jx4a65c_init_da8c8 rfl rfl rfl (hts _ lk_X4_init_nj) (hts _ lk_X4_init_18) (hts _ lk_X4_init_mj) rfl (by decide +kernel) ⟨(Nat.le_of_ble_eq_true rfl), (Nat.le_of_ble_eq_true rfl)⟩) hG (z_Smono hAF sN4) rfl hl.1 rfl (Nat.le_of_ble_eq_true rfl) dX4_init_42 ⟨(Nat.le_of_ble_eq_true rfl), (Nat.le_of_ble_eq_true rfl)⟩ (fun r4 HI4 LI4 pI4 fI4 => ?_)
  obtain ⟨eI4, aI4, zI4, kI4⟩ := pI4
  rw [eI4]
  have nV4 : s.heap.size ≤ HP3.size := by omega
  have sI4 : va_S (fun q => q = b ∨ s.heap.size ≤ q) s.heap HI4 (_ ++ LI4) := ⟨by rw [zI4]; exact sN4.1, fun q h1 h2 => (kI4 q (by omega)).trans (sN4.2.1 q h1 h2), fun q hq => by
    rcases List.mem_append.mp hq with z | z
    · exact sN4.2.2 q z
    · have z2 : q.base = HP3.size := fI4 q z
      exact Or.inr (by rw [z2]; exact nV4)⟩
  have hO : va_at D vwCl (b, .inr (5, [.ref s.heap.size, .ref HP1.size, .ref HP2.size, .null, .int (zI 0), .int (zI 0), .int (zI 0)])) HI4 := hO.kept ((kI4 b (by omega)).trans (oN4 b (by omega)))
  refine z_putF (A := fun q => q = b ∨ s.heap.size ≤ q) hx hb hts in_X4_init_X4 tyX4 tyX4_ok nmX4 hown hK hO (Or.inl rfl) sI4 rfl 3 (by decide) lk_X4_init_26 rfl rfl hin rfl rfl rfl (Nat.le_of_ble_eq_true rfl) dX4_init_45 (fun HP4 lP4 aP4 zP4 oP4 sP4 => ?_)
  have hO : va_at D vwCl (b, .inr (5, [.ref s.heap.size, .ref HP1.size, .ref HP2.size, .ref HP3.size, .int (zI 0), .int (zI 0), .int (zI 0)])) HP4 := aP4
  have hz4 : HP4.size = HP3.size + 1 := by omega
  have hk4 : ∀ q : Nat, q < HP3.size → q ≠ b → HP4[q]? = HP3[q]? := fun q h1 h2 => (oP4 q h2).trans ((kI4 q (by omega)).trans (oN4 q h1))
  have hT4 : va_at D vwCl (HP3.size, .inr (0, [.int (zI 0), .ref eE, .int (zI 0)])) HP4 := aI4.kept (oP4 _ (by omega))
  have hT1 := hT1.kept (H1 := HP4) (hk4 _ (z_lt hT1) (by show s.heap.size ≠ b; omega))
  have hT2 := hT2.kept (H1 := HP4) (hk4 _ (z_lt hT2) (by show HP1.size ≠ b; omega))
  have hT3 := hT3.kept (H1 := HP4) (hk4 _ (z_lt hT3) (by show HP2.size ≠ b; omega))
  refine lv_aload_n hx hb dX4_init_48 rfl (lv_at hl 0 rfl) ?_
  refine z_iconst hx hb dX4_init_49 ?_
  refine z_put (A := fun q => q = b ∨ s.heap.size ≤ q) hx hb hts in_X4_init_X4 tyX4 tyX4_ok nmX4 hown hK hO (Or.inl rfl) sP4 rfl 4 (by decide) lk_X4_init_29 rfl rfl rfl rfl (Nat.le_of_ble_eq_true rfl) dX4_init_50 (fun H5 l5 a5 z5 o5 s5 => ?_)
  have hT1 := hT1.kept (H1 := H5) (o5 _ (by show s.heap.size ≠ b; omega))
  have hT2 := hT2.kept (H1 := H5) (o5 _ (by show HP1.size ≠ b; omega))
  have hT3 := hT3.kept (H1 := H5) (o5 _ (by show HP2.size ≠ b; omega))
  have hT4 := hT4.kept (H1 := H5) (o5 _ (by show HP3.size ≠ b; omega))
  have w2 : ∀ j : Int, 0 ≤ j → j < 3 → j = 0 ∨ j = 1 ∨ j = 2 := fun j a c => by omega
  have v1 : s.heap.size ≠ b ∧ HP1.size ≠ b ∧ HP2.size ≠ b ∧ HP3.size ≠ b := by omega
  have v2 : s.heap.size < HP1.size ∧ HP1.size < HP2.size ∧ HP2.size < HP3.size := by omega
  have hRX : RX D cO A eE (fun t j => if t = 0 then b else if t = 1 then s.heap.size else if t = 2 then (if j = 0 then HP1.size else if j = 1 then HP2.size else HP3.size) else if t = 3 then eE else 0) zInit H5 := by
    refine ⟨fun t j hv => ?_, fun t j u k h h' e => ?_, fun t j hv => ?_, fun j a c => ?_⟩
    · match t, hv with
      | 0, hv => exact a5
      | 1, hv => exact hT1
      | 2, hv =>
        have hv : 0 ≤ j ∧ j < 3 := hv
        rcases w2 j hv.1 hv.2 with q | q | q
        · subst q; exact hT2
        · subst q; exact hT3
        · subst q; exact hT4
      | 3, hv => exact absurd hv.2 (Nat.lt_irrefl 0)
      | 4, hv => have hv : 0 ≤ j ∧ j < 0 := hv; omega
      | 5, hv => have hv : 0 ≤ j ∧ j < 0 := hv; omega
      | 6, hv => have hv : 0 ≤ j ∧ j < 0 := hv; omega
    · have key : ∀ t j, xVal (fun t j => if t = 0 then b else if t = 1 then s.heap.size else if t = 2 then (if j = 0 then HP1.size else if j = 1 then HP2.size else HP3.size) else if t = 3 then eE else 0) zInit t j → (t = 0 ∧ j = 0 ∧ (fun t j => if t = 0 then b else if t = 1 then s.heap.size else if t = 2 then (if j = 0 then HP1.size else if j = 1 then HP2.size else HP3.size) else if t = 3 then eE else 0) t j = b) ∨ (t = 1 ∧ j = 0 ∧ (fun t j => if t = 0 then b else if t = 1 then s.heap.size else if t = 2 then (if j = 0 then HP1.size else if j = 1 then HP2.size else HP3.size) else if t = 3 then eE else 0) t j = s.heap.size) ∨ (t = 2 ∧ j = 0 ∧ (fun t j => if t = 0 then b else if t = 1 then s.heap.size else if t = 2 then (if j = 0 then HP1.size else if j = 1 then HP2.size else HP3.size) else if t = 3 then eE else 0) t j = HP1.size) ∨ (t = 2 ∧ j = 1 ∧ (fun t j => if t = 0 then b else if t = 1 then s.heap.size else if t = 2 then (if j = 0 then HP1.size else if j = 1 then HP2.size else HP3.size) else if t = 3 then eE else 0) t j = HP2.size) ∨ (t = 2 ∧ j = 2 ∧ (fun t j => if t = 0 then b else if t = 1 then s.heap.size else if t = 2 then (if j = 0 then HP1.size else if j = 1 then HP2.size else HP3.size) else if t = 3 then eE else 0) t j = HP3.size) := fun t j hv => by
        match t, hv with
        | 0, hv => have hv : j = 0 := hv; exact Or.inl ⟨rfl, hv, rfl⟩
        | 1, hv => have hv : j = 0 := hv; exact Or.inr (Or.inl ⟨rfl, hv, rfl⟩)
        | 2, hv =>
          have hv : 0 ≤ j ∧ j < 3 := hv
          rcases w2 j hv.1 hv.2 with q | q | q
          · subst q; exact Or.inr (Or.inr (Or.inl ⟨rfl, rfl, rfl⟩))
          · subst q; exact Or.inr (Or.inr (Or.inr (Or.inl ⟨rfl, rfl, rfl⟩)))
          · subst q; exact Or.inr (Or.inr (Or.inr (Or.inr ⟨rfl, rfl, rfl⟩)))
        | 3, hv => exact absurd hv.2 (Nat.lt_irrefl 0)
        | 4, hv => have hv : 0 ≤ j ∧ j < 0 := hv; omega
        | 5, hv => have hv : 0 ≤ j ∧ j < 0 := hv; omega
        | 6, hv => have hv : 0 ≤ j ∧ j < 0 := hv; omega
      rcases key t j h with ⟨p1, p2, p3⟩ | ⟨p1, p2, p3⟩ | ⟨p1, p2, p3⟩ | ⟨p1, p2, p3⟩ | ⟨p1, p2, p3⟩ <;> rcases key u k h' with ⟨r1, r2, r3⟩ | ⟨r1, r2, r3⟩ | ⟨r1, r2, r3⟩ | ⟨r1, r2, r3⟩ | ⟨r1, r2, r3⟩ <;> (rw [p3, r3] at e; first | exact ⟨by omega, by omega⟩ | (exfalso; omega))
    · match t, hv with
      | 0, hv => exact hA
      | 1, hv => exact hAF _ (Or.inr (by show s.heap.size ≤ s.heap.size; omega))
      | 2, hv =>
        have hv : 0 ≤ j ∧ j < 3 := hv
        rcases w2 j hv.1 hv.2 with q | q | q
        · subst q; exact hAF _ (Or.inr (by show s.heap.size ≤ HP1.size; omega))
        · subst q; exact hAF _ (Or.inr (by show s.heap.size ≤ HP2.size; omega))
        · subst q; exact hAF _ (Or.inr (by show s.heap.size ≤ HP3.size; omega))
      | 3, hv => exact absurd hv.2 (Nat.lt_irrefl 0)
      | 4, hv => have hv : 0 ≤ j ∧ j < 0 := hv; omega
      | 5, hv => have hv : 0 ≤ j ∧ j < 0 := hv; omega
      | 6, hv => have hv : 0 ≤ j ∧ j < 0 := hv; omega
    · rcases w2 j a c with q | q | q <;> (subst q; exact ⟨(show (0 : Int) ≤ ((0 : Nat) : Int) by decide), (show (0 : Nat) ≤ 60 by decide), fun _ => rfl⟩)
  exact W.vret hx hb hr (z_endP (P := fun rv H1 => rv = none ∧ ∃ g : zG, g 0 0 = b ∧ RX D cO A eE g zInit H1 ∧ s.heap.size ≤ H1.size ∧ ∀ q : Nat, q < s.heap.size → q ≠ b → H1[q]? = s.heap[q]?) ⟨rfl, _, rfl, hRX, by omega, fun q h1 h2 => s5.2.1 q h1 (by omega)⟩) s5.2.2 dX4_init_53
