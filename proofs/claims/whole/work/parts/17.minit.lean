/-! the reference: its constructor -/
/-- the table at first -/
def zInit : zT := fun t _ => if t = 2 then 100 else if t = 3 then 40 else if t = 4 then 2 else 0
theorem isA_c {t : Nat} (h : isA t = true) : t = 6 ∨ t = 7 ∨ t = 8 ∨ t = 9 ∨ t = 10 ∨ t = 12 ∨ t = 13 ∨ t = 15 ∨ t = 16 ∨ t = 17 ∨ t = 18 ∨ t = 19 ∨ t = 20 := by
  unfold isA at h
  split at h <;> first | omega | cases h
theorem z_newaI {p : Program} {l : Launch} {e : Env} {R : Room} {s : State} {m : MethodId} {args : Array Value} {below : List Frame} {meth : Method} {c : Code} {H : Heap} {locs : List Loc} {cells slots : Nat} {Q : State → Prop} {cc : ByteArray} {pc : Nat} {ls : Array Slot} {rest : List Value} {D : va_G} {cI cO cL : ClassId} {A : Nat → Prop} {H0 : Heap}
    (hexec : p.tables.exec = Jvm.exec) (hb : c.code = cc) (hdg : decode cc pc = .ok (.newarray .int, 2)) (harr : (Cond.arrayClass .int).before args s = true) (hK : zKK D cI cO cL s) (hS : va_S A H0 H locs) (hA : ∀ q, H0.size ≤ q → A q) {n : Nat} (hn : (0 ≤ (n : Int) ∧ (n : Int) < 2147483648) ∧ n * 4 ≤ 536870912) (hcells : cells + 1 ≤ R.cells) (hslots : slots + n ≤ R.slots)
    (kk : ∀ (H1 : Heap), va_at D vwCl (H.size, .inl (cI, n, .inl (fun _ => zI 0))) H1 → H1.size = H.size + 1 → (∀ q : Nat, q < H.size → H1[q]? = H[q]?) → va_S A H0 H1 locs →
      W p l e R s m args below meth c H1 locs (cells + 1) (slots + n) Q (F0 m (pc + 2) ls (.ref H.size :: rest))) : W p l e R s m args below meth c H locs cells slots Q (F0 m pc ls (.int (zI (n : Int)) :: rest)) := by
  refine va_newaK (atype := .int) hexec hb harr rfl hdg rfl (zI_nonneg hn.1) (by rw [zI_clamp hn.1]; exact Int.toNat_natCast n) hn.2 hcells hslots rfl fun H1 cA e1 z1 o1 hAr hNm => ?_
  have hcI : s.vm.findClass ("[" ++ FieldType.int.toString) = some cI := (hK.2 0 (cI, .int) rfl).2
  have e : cA = cI := Option.some.inj (hNm.symm.trans hcI)
  subst e
  exact kk H1 e1 z1 o1 ⟨Nat.le_trans hS.1 (by omega), fun x h1 h2 => (o1 x (Nat.lt_of_lt_of_le h1 hS.1)).trans (hS.2.1 x h1 h2), hS.2.2⟩
theorem lk_X5_init_7 : Cond.fieldLink RX5 7 "HarbourPilotlineModel" "depth" "I" ∈ wsX5_init := by decide +kernel
theorem lk_X5_init_13 : Cond.fieldLink RX5 13 "HarbourPilotlineModel" "rise" "I" ∈ wsX5_init := by decide +kernel
theorem lk_X5_init_16 : Cond.fieldLink RX5 16 "HarbourPilotlineModel" "tugs" "I" ∈ wsX5_init := by decide +kernel
theorem lk_X5_init_19 : Cond.fieldLink RX5 19 "HarbourPilotlineModel" "draught" "[I" ∈ wsX5_init := by decide +kernel
theorem lk_X5_init_23 : Cond.fieldLink RX5 23 "HarbourPilotlineModel" "tons" "[I" ∈ wsX5_init := by decide +kernel
theorem lk_X5_init_26 : Cond.fieldLink RX5 26 "HarbourPilotlineModel" "takes" "[I" ∈ wsX5_init := by decide +kernel
theorem lk_X5_init_29 : Cond.fieldLink RX5 29 "HarbourPilotlineModel" "needs" "[I" ∈ wsX5_init := by decide +kernel
theorem lk_X5_init_32 : Cond.fieldLink RX5 32 "HarbourPilotlineModel" "owes" "[I" ∈ wsX5_init := by decide +kernel
theorem lk_X5_init_35 : Cond.fieldLink RX5 35 "HarbourPilotlineModel" "licence" "[I" ∈ wsX5_init := by decide +kernel
theorem lk_X5_init_38 : Cond.fieldLink RX5 38 "HarbourPilotlineModel" "rate" "[I" ∈ wsX5_init := by decide +kernel
theorem lk_X5_init_41 : Cond.fieldLink RX5 41 "HarbourPilotlineModel" "ship" "[I" ∈ wsX5_init := by decide +kernel
theorem lk_X5_init_44 : Cond.fieldLink RX5 44 "HarbourPilotlineModel" "wish" "[I" ∈ wsX5_init := by decide +kernel
theorem lk_X5_init_47 : Cond.fieldLink RX5 47 "HarbourPilotlineModel" "in" "[I" ∈ wsX5_init := by decide +kernel
theorem lk_X5_init_50 : Cond.fieldLink RX5 50 "HarbourPilotlineModel" "pilot" "[I" ∈ wsX5_init := by decide +kernel
theorem lk_X5_init_53 : Cond.fieldLink RX5 53 "HarbourPilotlineModel" "state" "[I" ∈ wsX5_init := by decide +kernel
theorem lk_X5_init_56 : Cond.fieldLink RX5 56 "HarbourPilotlineModel" "slot" "[I" ∈ wsX5_init := by decide +kernel
theorem in_X5_init : ∀ w ∈ wsX50, w ∈ wsX5_init := by decide +kernel
set_option maxRecDepth 100000 in
set_option maxHeartbeats 4000000 in
theorem c_X5_init (l : Launch) (D : va_G) (cI cO cL : ClassId) (b : Nat) (H0 : Heap) (hO : va_at D vwCl (b, .inr (6, [.int (zI 0), .int (zI 0), .int (zI 0), .int (zI 0), .int (zI 0), .int (zI 0), .null, .null, .null, .null, .null, .int (zI 0), .null, .null, .int (zI 0), .null, .null, .null, .null, .null, .null, .int (zI 0)])) H0) : Met l yX5_init wsX5_init ({ frames := 1, cells := 13, slots := 316, locals := 24 }) (va_Pc [.ref b] (fun U => U.heap = H0 ∧ zKK D cI cO cL U)) (fun _ st o t => o = .returned none ∧ ∃ ma : Nat → Nat, RM D cI b ma zInit t.heap ∧ MA b ma ∧ (∀ k, isA k = true → st.heap.size ≤ ma k ∧ ma k < t.heap.size) ∧ t.heap.size = st.heap.size + 13 ∧ ∀ q : Nat, q < st.heap.size → q ≠ b → t.heap[q]? = st.heap[q]?) 13 316 (fun q => q = b ∨ H0.size ≤ q) := by
  refine Met.ofW (cc := cX5_init) (maxL := 1) (ret := none) (by decide) rfl ?_
  intro p e s m args below meth c s₁ B hml hv
  obtain ⟨rfl, hH, hK⟩ := hv
  subst hH
  have hx := B.exec
  have hb := B.bytes
  have hr := B.returns
  have hts := atoms_spec (ws := wsX5_init) B.pre
  have hown : s.vm.findClass RX5 = some m.cls := findClass_of_methodNamed B.named
  have hlocks := B.notSynchronized
  have hin : meth.name = "<init>" := (name_of_methodNamed B.named B.method).1
  have hl := lv_entry ([.ref b]) (n := 1) (Nat.le_of_ble_eq_true rfl)
  rw [lg_entry_eq]
  generalize (lg_sl ([.ref b]) ++ List.replicate (1 - (lg_sl ([.ref b])).length) Slot.unset).toArray = ls at hl ⊢
  have hl : lv_has ls 1 [(0, .ref b)] := hl
  have hS0 : va_S (fun q : Nat => q = b ∨ s.heap.size ≤ q) s.heap s.heap [] := va_S.rf
  have hbl := z_lt hO
  refine lv_aload_n hx hb dX5_init_0 rfl (lv_at hl 0 rfl) ?_
  refine W.objInit hx hb hown (hts (.methodLink RX5 1 objectInit) (by decide +kernel)) (hts (.instanceMethod objectInit) (by decide +kernel)) (hts _ (List.mem_cons_of_mem _ (List.mem_append_left _ (List.mem_of_getElem? (i := 2) rfl)))) rfl (by rw [hml]; exact hl.1) rfl dX5_init_1 (Nat.le_of_ble_eq_true rfl) (Nat.le_of_ble_eq_true rfl) ?_
  refine W.eq (g2 := F0 m 4 ls []) rfl ?_
  refine lv_aload_n hx hb dX5_init_4 rfl (lv_at hl 0 rfl) ?_
  refine z_bipush hx hb dX5_init_5 (by decide +kernel) ?_
  refine z_put hx hb hts in_X5_init tyX5 tyX5_ok nmX5 hown hK hO (Or.inl rfl) hS0 rfl 2 (by decide) lk_X5_init_7 rfl rfl rfl rfl (Nat.le_of_ble_eq_true rfl) dX5_init_7 (fun H1 locs1 hO1 hz1 ho1 hS1 => ?_)
  have hO : va_at D vwCl (b, .inr (6, [.int (zI 0), .int (zI 0), .int (zI 100), .int (zI 0), .int (zI 0), .int (zI 0), .null, .null, .null, .null, .null, .int (zI 0), .null, .null, .int (zI 0), .null, .null, .null, .null, .null, .null, .int (zI 0)])) H1 := hO1
  refine lv_aload_n hx hb dX5_init_10 rfl (lv_at hl 0 rfl) ?_
  refine z_bipush hx hb dX5_init_11 (by decide +kernel) ?_
  refine z_put hx hb hts in_X5_init tyX5 tyX5_ok nmX5 hown hK hO (Or.inl rfl) hS1 rfl 3 (by decide) lk_X5_init_13 rfl rfl rfl rfl (Nat.le_of_ble_eq_true rfl) dX5_init_13 (fun H2 locs2 hO2 hz2 ho2 hS2 => ?_)
  have hO : va_at D vwCl (b, .inr (6, [.int (zI 0), .int (zI 0), .int (zI 100), .int (zI 40), .int (zI 0), .int (zI 0), .null, .null, .null, .null, .null, .int (zI 0), .null, .null, .int (zI 0), .null, .null, .null, .null, .null, .null, .int (zI 0)])) H2 := hO2
  refine lv_aload_n hx hb dX5_init_16 rfl (lv_at hl 0 rfl) ?_
  refine z_iconst hx hb dX5_init_17 ?_
  refine z_put hx hb hts in_X5_init tyX5 tyX5_ok nmX5 hown hK hO (Or.inl rfl) hS2 rfl 4 (by decide) lk_X5_init_16 rfl rfl rfl rfl (Nat.le_of_ble_eq_true rfl) dX5_init_18 (fun H3 locs3 hO3 hz3 ho3 hS3 => ?_)
  have hO : va_at D vwCl (b, .inr (6, [.int (zI 0), .int (zI 0), .int (zI 100), .int (zI 40), .int (zI 2), .int (zI 0), .null, .null, .null, .null, .null, .int (zI 0), .null, .null, .int (zI 0), .null, .null, .null, .null, .null, .null, .int (zI 0)])) H3 := hO3
  refine lv_aload_n hx hb dX5_init_21 rfl (lv_at hl 0 rfl) ?_
  refine z_bipush hx hb dX5_init_22 (by decide +kernel) ?_
  refine z_newaI hx hb dX5_init_24 (hts (.arrayClass .int) (by decide +kernel)) hK hS3 (fun q h => Or.inr h) (n := 12) ⟨by decide, by decide⟩ (Nat.le_of_ble_eq_true rfl) (Nat.le_of_ble_eq_true rfl) (fun H4 ha4 hz4 ho4 hS4 => ?_)
  have hO := hO.kept (ho4 _ (z_lt hO))
  refine W.widen (k := 1) (n := 12) (by omega) (by omega) ?_
  refine z_putF hx hb hts in_X5_init tyX5 tyX5_ok nmX5 hown hK hO (Or.inl rfl) hS4 rfl 6 (by decide) lk_X5_init_19 rfl rfl hin rfl rfl rfl (Nat.le_of_ble_eq_true rfl) dX5_init_26 (fun H5 locs5 hO5 hz5 ho5 hS5 => ?_)
  have hO : va_at D vwCl (b, .inr (6, [.int (zI 0), .int (zI 0), .int (zI 100), .int (zI 40), .int (zI 2), .int (zI 0), .ref H3.size, .null, .null, .null, .null, .int (zI 0), .null, .null, .int (zI 0), .null, .null, .null, .null, .null, .null, .int (zI 0)])) H5 := hO5
  have hA6 := ha4
  have hA6 := hA6.kept (ho5 _ (by omega))
  refine lv_aload_n hx hb dX5_init_29 rfl (lv_at hl 0 rfl) ?_
  refine z_bipush hx hb dX5_init_30 (by decide +kernel) ?_
  refine z_newaI hx hb dX5_init_32 (hts (.arrayClass .int) (by decide +kernel)) hK hS5 (fun q h => Or.inr h) (n := 12) ⟨by decide, by decide⟩ (Nat.le_of_ble_eq_true rfl) (Nat.le_of_ble_eq_true rfl) (fun H6 ha6 hz6 ho6 hS6 => ?_)
  have hO := hO.kept (ho6 _ (z_lt hO))
  have hA6 := hA6.kept (ho6 _ (z_lt hA6))
  refine W.widen (k := 2) (n := 24) (by omega) (by omega) ?_
  refine z_putF hx hb hts in_X5_init tyX5 tyX5_ok nmX5 hown hK hO (Or.inl rfl) hS6 rfl 7 (by decide) lk_X5_init_23 rfl rfl hin rfl rfl rfl (Nat.le_of_ble_eq_true rfl) dX5_init_34 (fun H7 locs7 hO7 hz7 ho7 hS7 => ?_)
  have hO : va_at D vwCl (b, .inr (6, [.int (zI 0), .int (zI 0), .int (zI 100), .int (zI 40), .int (zI 2), .int (zI 0), .ref H3.size, .ref H5.size, .null, .null, .null, .int (zI 0), .null, .null, .int (zI 0), .null, .null, .null, .null, .null, .null, .int (zI 0)])) H7 := hO7
  have hA7 := ha6
  have hA6 := hA6.kept (ho7 _ (by omega))
  have hA7 := hA7.kept (ho7 _ (by omega))
  refine lv_aload_n hx hb dX5_init_37 rfl (lv_at hl 0 rfl) ?_
  refine z_bipush hx hb dX5_init_38 (by decide +kernel) ?_
  refine z_newaI hx hb dX5_init_40 (hts (.arrayClass .int) (by decide +kernel)) hK hS7 (fun q h => Or.inr h) (n := 12) ⟨by decide, by decide⟩ (Nat.le_of_ble_eq_true rfl) (Nat.le_of_ble_eq_true rfl) (fun H8 ha8 hz8 ho8 hS8 => ?_)
  have hO := hO.kept (ho8 _ (z_lt hO))
  have hA6 := hA6.kept (ho8 _ (z_lt hA6))
  have hA7 := hA7.kept (ho8 _ (z_lt hA7))
  refine W.widen (k := 3) (n := 36) (by omega) (by omega) ?_
  refine z_putF hx hb hts in_X5_init tyX5 tyX5_ok nmX5 hown hK hO (Or.inl rfl) hS8 rfl 8 (by decide) lk_X5_init_26 rfl rfl hin rfl rfl rfl (Nat.le_of_ble_eq_true rfl) dX5_init_42 (fun H9 locs9 hO9 hz9 ho9 hS9 => ?_)
  have hO : va_at D vwCl (b, .inr (6, [.int (zI 0), .int (zI 0), .int (zI 100), .int (zI 40), .int (zI 2), .int (zI 0), .ref H3.size, .ref H5.size, .ref H7.size, .null, .null, .int (zI 0), .null, .null, .int (zI 0), .null, .null, .null, .null, .null, .null, .int (zI 0)])) H9 := hO9
  have hA8 := ha8
  have hA6 := hA6.kept (ho9 _ (by omega))
  have hA7 := hA7.kept (ho9 _ (by omega))
  have hA8 := hA8.kept (ho9 _ (by omega))
  refine lv_aload_n hx hb dX5_init_45 rfl (lv_at hl 0 rfl) ?_
  refine z_bipush hx hb dX5_init_46 (by decide +kernel) ?_
  refine z_newaI hx hb dX5_init_48 (hts (.arrayClass .int) (by decide +kernel)) hK hS9 (fun q h => Or.inr h) (n := 12) ⟨by decide, by decide⟩ (Nat.le_of_ble_eq_true rfl) (Nat.le_of_ble_eq_true rfl) (fun H10 ha10 hz10 ho10 hS10 => ?_)
  have hO := hO.kept (ho10 _ (z_lt hO))
  have hA6 := hA6.kept (ho10 _ (z_lt hA6))
  have hA7 := hA7.kept (ho10 _ (z_lt hA7))
  have hA8 := hA8.kept (ho10 _ (z_lt hA8))
  refine W.widen (k := 4) (n := 48) (by omega) (by omega) ?_
  refine z_putF hx hb hts in_X5_init tyX5 tyX5_ok nmX5 hown hK hO (Or.inl rfl) hS10 rfl 9 (by decide) lk_X5_init_29 rfl rfl hin rfl rfl rfl (Nat.le_of_ble_eq_true rfl) dX5_init_50 (fun H11 locs11 hO11 hz11 ho11 hS11 => ?_)
  have hO : va_at D vwCl (b, .inr (6, [.int (zI 0), .int (zI 0), .int (zI 100), .int (zI 40), .int (zI 2), .int (zI 0), .ref H3.size, .ref H5.size, .ref H7.size, .ref H9.size, .null, .int (zI 0), .null, .null, .int (zI 0), .null, .null, .null, .null, .null, .null, .int (zI 0)])) H11 := hO11
  have hA9 := ha10
  have hA6 := hA6.kept (ho11 _ (by omega))
  have hA7 := hA7.kept (ho11 _ (by omega))
  have hA8 := hA8.kept (ho11 _ (by omega))
  have hA9 := hA9.kept (ho11 _ (by omega))
  refine lv_aload_n hx hb dX5_init_53 rfl (lv_at hl 0 rfl) ?_
  refine z_bipush hx hb dX5_init_54 (by decide +kernel) ?_
  refine z_newaI hx hb dX5_init_56 (hts (.arrayClass .int) (by decide +kernel)) hK hS11 (fun q h => Or.inr h) (n := 12) ⟨by decide, by decide⟩ (Nat.le_of_ble_eq_true rfl) (Nat.le_of_ble_eq_true rfl) (fun H12 ha12 hz12 ho12 hS12 => ?_)
  have hO := hO.kept (ho12 _ (z_lt hO))
  have hA6 := hA6.kept (ho12 _ (z_lt hA6))
  have hA7 := hA7.kept (ho12 _ (z_lt hA7))
  have hA8 := hA8.kept (ho12 _ (z_lt hA8))
  have hA9 := hA9.kept (ho12 _ (z_lt hA9))
  refine W.widen (k := 5) (n := 60) (by omega) (by omega) ?_
  refine z_putF hx hb hts in_X5_init tyX5 tyX5_ok nmX5 hown hK hO (Or.inl rfl) hS12 rfl 10 (by decide) lk_X5_init_32 rfl rfl hin rfl rfl rfl (Nat.le_of_ble_eq_true rfl) dX5_init_58 (fun H13 locs13 hO13 hz13 ho13 hS13 => ?_)
  have hO : va_at D vwCl (b, .inr (6, [.int (zI 0), .int (zI 0), .int (zI 100), .int (zI 40), .int (zI 2), .int (zI 0), .ref H3.size, .ref H5.size, .ref H7.size, .ref H9.size, .ref H11.size, .int (zI 0), .null, .null, .int (zI 0), .null, .null, .null, .null, .null, .null, .int (zI 0)])) H13 := hO13
  have hA10 := ha12
  have hA6 := hA6.kept (ho13 _ (by omega))
  have hA7 := hA7.kept (ho13 _ (by omega))
  have hA8 := hA8.kept (ho13 _ (by omega))
  have hA9 := hA9.kept (ho13 _ (by omega))
  have hA10 := hA10.kept (ho13 _ (by omega))
  refine lv_aload_n hx hb dX5_init_61 rfl (lv_at hl 0 rfl) ?_
  refine z_bipush hx hb dX5_init_62 (by decide +kernel) ?_
  refine z_newaI hx hb dX5_init_64 (hts (.arrayClass .int) (by decide +kernel)) hK hS13 (fun q h => Or.inr h) (n := 8) ⟨by decide, by decide⟩ (Nat.le_of_ble_eq_true rfl) (Nat.le_of_ble_eq_true rfl) (fun H14 ha14 hz14 ho14 hS14 => ?_)
  have hO := hO.kept (ho14 _ (z_lt hO))
  have hA6 := hA6.kept (ho14 _ (z_lt hA6))
  have hA7 := hA7.kept (ho14 _ (z_lt hA7))
  have hA8 := hA8.kept (ho14 _ (z_lt hA8))
  have hA9 := hA9.kept (ho14 _ (z_lt hA9))
  have hA10 := hA10.kept (ho14 _ (z_lt hA10))
  refine W.widen (k := 6) (n := 68) (by omega) (by omega) ?_
  refine z_putF hx hb hts in_X5_init tyX5 tyX5_ok nmX5 hown hK hO (Or.inl rfl) hS14 rfl 12 (by decide) lk_X5_init_35 rfl rfl hin rfl rfl rfl (Nat.le_of_ble_eq_true rfl) dX5_init_66 (fun H15 locs15 hO15 hz15 ho15 hS15 => ?_)
  have hO : va_at D vwCl (b, .inr (6, [.int (zI 0), .int (zI 0), .int (zI 100), .int (zI 40), .int (zI 2), .int (zI 0), .ref H3.size, .ref H5.size, .ref H7.size, .ref H9.size, .ref H11.size, .int (zI 0), .ref H13.size, .null, .int (zI 0), .null, .null, .null, .null, .null, .null, .int (zI 0)])) H15 := hO15
  have hA12 := ha14
  have hA6 := hA6.kept (ho15 _ (by omega))
  have hA7 := hA7.kept (ho15 _ (by omega))
  have hA8 := hA8.kept (ho15 _ (by omega))
  have hA9 := hA9.kept (ho15 _ (by omega))
  have hA10 := hA10.kept (ho15 _ (by omega))
  have hA12 := hA12.kept (ho15 _ (by omega))
  refine lv_aload_n hx hb dX5_init_69 rfl (lv_at hl 0 rfl) ?_
  refine z_bipush hx hb dX5_init_70 (by decide +kernel) ?_
  refine z_newaI hx hb dX5_init_72 (hts (.arrayClass .int) (by decide +kernel)) hK hS15 (fun q h => Or.inr h) (n := 8) ⟨by decide, by decide⟩ (Nat.le_of_ble_eq_true rfl) (Nat.le_of_ble_eq_true rfl) (fun H16 ha16 hz16 ho16 hS16 => ?_)
  have hO := hO.kept (ho16 _ (z_lt hO))
  have hA6 := hA6.kept (ho16 _ (z_lt hA6))
  have hA7 := hA7.kept (ho16 _ (z_lt hA7))
  have hA8 := hA8.kept (ho16 _ (z_lt hA8))
  have hA9 := hA9.kept (ho16 _ (z_lt hA9))
  have hA10 := hA10.kept (ho16 _ (z_lt hA10))
  have hA12 := hA12.kept (ho16 _ (z_lt hA12))
  refine W.widen (k := 7) (n := 76) (by omega) (by omega) ?_
  refine z_putF hx hb hts in_X5_init tyX5 tyX5_ok nmX5 hown hK hO (Or.inl rfl) hS16 rfl 13 (by decide) lk_X5_init_38 rfl rfl hin rfl rfl rfl (Nat.le_of_ble_eq_true rfl) dX5_init_74 (fun H17 locs17 hO17 hz17 ho17 hS17 => ?_)
  have hO : va_at D vwCl (b, .inr (6, [.int (zI 0), .int (zI 0), .int (zI 100), .int (zI 40), .int (zI 2), .int (zI 0), .ref H3.size, .ref H5.size, .ref H7.size, .ref H9.size, .ref H11.size, .int (zI 0), .ref H13.size, .ref H15.size, .int (zI 0), .null, .null, .null, .null, .null, .null, .int (zI 0)])) H17 := hO17
  have hA13 := ha16
  have hA6 := hA6.kept (ho17 _ (by omega))
  have hA7 := hA7.kept (ho17 _ (by omega))
  have hA8 := hA8.kept (ho17 _ (by omega))
  have hA9 := hA9.kept (ho17 _ (by omega))
  have hA10 := hA10.kept (ho17 _ (by omega))
  have hA12 := hA12.kept (ho17 _ (by omega))
  have hA13 := hA13.kept (ho17 _ (by omega))
  refine lv_aload_n hx hb dX5_init_77 rfl (lv_at hl 0 rfl) ?_
  refine z_bipush hx hb dX5_init_78 (by decide +kernel) ?_
  refine z_newaI hx hb dX5_init_80 (hts (.arrayClass .int) (by decide +kernel)) hK hS17 (fun q h => Or.inr h) (n := 40) ⟨by decide, by decide⟩ (Nat.le_of_ble_eq_true rfl) (Nat.le_of_ble_eq_true rfl) (fun H18 ha18 hz18 ho18 hS18 => ?_)
  have hO := hO.kept (ho18 _ (z_lt hO))
  have hA6 := hA6.kept (ho18 _ (z_lt hA6))
  have hA7 := hA7.kept (ho18 _ (z_lt hA7))
  have hA8 := hA8.kept (ho18 _ (z_lt hA8))
  have hA9 := hA9.kept (ho18 _ (z_lt hA9))
  have hA10 := hA10.kept (ho18 _ (z_lt hA10))
  have hA12 := hA12.kept (ho18 _ (z_lt hA12))
  have hA13 := hA13.kept (ho18 _ (z_lt hA13))
  refine W.widen (k := 8) (n := 116) (by omega) (by omega) ?_
  refine z_putF hx hb hts in_X5_init tyX5 tyX5_ok nmX5 hown hK hO (Or.inl rfl) hS18 rfl 15 (by decide) lk_X5_init_41 rfl rfl hin rfl rfl rfl (Nat.le_of_ble_eq_true rfl) dX5_init_82 (fun H19 locs19 hO19 hz19 ho19 hS19 => ?_)
  have hO : va_at D vwCl (b, .inr (6, [.int (zI 0), .int (zI 0), .int (zI 100), .int (zI 40), .int (zI 2), .int (zI 0), .ref H3.size, .ref H5.size, .ref H7.size, .ref H9.size, .ref H11.size, .int (zI 0), .ref H13.size, .ref H15.size, .int (zI 0), .ref H17.size, .null, .null, .null, .null, .null, .int (zI 0)])) H19 := hO19
  have hA15 := ha18
  have hA6 := hA6.kept (ho19 _ (by omega))
  have hA7 := hA7.kept (ho19 _ (by omega))
  have hA8 := hA8.kept (ho19 _ (by omega))
  have hA9 := hA9.kept (ho19 _ (by omega))
  have hA10 := hA10.kept (ho19 _ (by omega))
  have hA12 := hA12.kept (ho19 _ (by omega))
  have hA13 := hA13.kept (ho19 _ (by omega))
  have hA15 := hA15.kept (ho19 _ (by omega))
  refine lv_aload_n hx hb dX5_init_85 rfl (lv_at hl 0 rfl) ?_
  refine z_bipush hx hb dX5_init_86 (by decide +kernel) ?_
  refine z_newaI hx hb dX5_init_88 (hts (.arrayClass .int) (by decide +kernel)) hK hS19 (fun q h => Or.inr h) (n := 40) ⟨by decide, by decide⟩ (Nat.le_of_ble_eq_true rfl) (Nat.le_of_ble_eq_true rfl) (fun H20 ha20 hz20 ho20 hS20 => ?_)
  have hO := hO.kept (ho20 _ (z_lt hO))
  have hA6 := hA6.kept (ho20 _ (z_lt hA6))
  have hA7 := hA7.kept (ho20 _ (z_lt hA7))
  have hA8 := hA8.kept (ho20 _ (z_lt hA8))
  have hA9 := hA9.kept (ho20 _ (z_lt hA9))
  have hA10 := hA10.kept (ho20 _ (z_lt hA10))
  have hA12 := hA12.kept (ho20 _ (z_lt hA12))
  have hA13 := hA13.kept (ho20 _ (z_lt hA13))
  have hA15 := hA15.kept (ho20 _ (z_lt hA15))
  refine W.widen (k := 9) (n := 156) (by omega) (by omega) ?_
  refine z_putF hx hb hts in_X5_init tyX5 tyX5_ok nmX5 hown hK hO (Or.inl rfl) hS20 rfl 16 (by decide) lk_X5_init_44 rfl rfl hin rfl rfl rfl (Nat.le_of_ble_eq_true rfl) dX5_init_90 (fun H21 locs21 hO21 hz21 ho21 hS21 => ?_)
  have hO : va_at D vwCl (b, .inr (6, [.int (zI 0), .int (zI 0), .int (zI 100), .int (zI 40), .int (zI 2), .int (zI 0), .ref H3.size, .ref H5.size, .ref H7.size, .ref H9.size, .ref H11.size, .int (zI 0), .ref H13.size, .ref H15.size, .int (zI 0), .ref H17.size, .ref H19.size, .null, .null, .null, .null, .int (zI 0)])) H21 := hO21
  have hA16 := ha20
  have hA6 := hA6.kept (ho21 _ (by omega))
  have hA7 := hA7.kept (ho21 _ (by omega))
  have hA8 := hA8.kept (ho21 _ (by omega))
  have hA9 := hA9.kept (ho21 _ (by omega))
  have hA10 := hA10.kept (ho21 _ (by omega))
  have hA12 := hA12.kept (ho21 _ (by omega))
  have hA13 := hA13.kept (ho21 _ (by omega))
  have hA15 := hA15.kept (ho21 _ (by omega))
  have hA16 := hA16.kept (ho21 _ (by omega))
  refine lv_aload_n hx hb dX5_init_93 rfl (lv_at hl 0 rfl) ?_
  refine z_bipush hx hb dX5_init_94 (by decide +kernel) ?_
  refine z_newaI hx hb dX5_init_96 (hts (.arrayClass .int) (by decide +kernel)) hK hS21 (fun q h => Or.inr h) (n := 40) ⟨by decide, by decide⟩ (Nat.le_of_ble_eq_true rfl) (Nat.le_of_ble_eq_true rfl) (fun H22 ha22 hz22 ho22 hS22 => ?_)
  have hO := hO.kept (ho22 _ (z_lt hO))
  have hA6 := hA6.kept (ho22 _ (z_lt hA6))
  have hA7 := hA7.kept (ho22 _ (z_lt hA7))
  have hA8 := hA8.kept (ho22 _ (z_lt hA8))
  have hA9 := hA9.kept (ho22 _ (z_lt hA9))
  have hA10 := hA10.kept (ho22 _ (z_lt hA10))
  have hA12 := hA12.kept (ho22 _ (z_lt hA12))
  have hA13 := hA13.kept (ho22 _ (z_lt hA13))
  have hA15 := hA15.kept (ho22 _ (z_lt hA15))
  have hA16 := hA16.kept (ho22 _ (z_lt hA16))
  refine W.widen (k := 10) (n := 196) (by omega) (by omega) ?_
  refine z_putF hx hb hts in_X5_init tyX5 tyX5_ok nmX5 hown hK hO (Or.inl rfl) hS22 rfl 17 (by decide) lk_X5_init_47 rfl rfl hin rfl rfl rfl (Nat.le_of_ble_eq_true rfl) dX5_init_98 (fun H23 locs23 hO23 hz23 ho23 hS23 => ?_)
  have hO : va_at D vwCl (b, .inr (6, [.int (zI 0), .int (zI 0), .int (zI 100), .int (zI 40), .int (zI 2), .int (zI 0), .ref H3.size, .ref H5.size, .ref H7.size, .ref H9.size, .ref H11.size, .int (zI 0), .ref H13.size, .ref H15.size, .int (zI 0), .ref H17.size, .ref H19.size, .ref H21.size, .null, .null, .null, .int (zI 0)])) H23 := hO23
  have hA17 := ha22
  have hA6 := hA6.kept (ho23 _ (by omega))
  have hA7 := hA7.kept (ho23 _ (by omega))
  have hA8 := hA8.kept (ho23 _ (by omega))
  have hA9 := hA9.kept (ho23 _ (by omega))
  have hA10 := hA10.kept (ho23 _ (by omega))
  have hA12 := hA12.kept (ho23 _ (by omega))
  have hA13 := hA13.kept (ho23 _ (by omega))
  have hA15 := hA15.kept (ho23 _ (by omega))
  have hA16 := hA16.kept (ho23 _ (by omega))
  have hA17 := hA17.kept (ho23 _ (by omega))
  refine lv_aload_n hx hb dX5_init_101 rfl (lv_at hl 0 rfl) ?_
  refine z_bipush hx hb dX5_init_102 (by decide +kernel) ?_
  refine z_newaI hx hb dX5_init_104 (hts (.arrayClass .int) (by decide +kernel)) hK hS23 (fun q h => Or.inr h) (n := 40) ⟨by decide, by decide⟩ (Nat.le_of_ble_eq_true rfl) (Nat.le_of_ble_eq_true rfl) (fun H24 ha24 hz24 ho24 hS24 => ?_)
  have hO := hO.kept (ho24 _ (z_lt hO))
  have hA6 := hA6.kept (ho24 _ (z_lt hA6))
  have hA7 := hA7.kept (ho24 _ (z_lt hA7))
  have hA8 := hA8.kept (ho24 _ (z_lt hA8))
  have hA9 := hA9.kept (ho24 _ (z_lt hA9))
  have hA10 := hA10.kept (ho24 _ (z_lt hA10))
  have hA12 := hA12.kept (ho24 _ (z_lt hA12))
  have hA13 := hA13.kept (ho24 _ (z_lt hA13))
  have hA15 := hA15.kept (ho24 _ (z_lt hA15))
  have hA16 := hA16.kept (ho24 _ (z_lt hA16))
  have hA17 := hA17.kept (ho24 _ (z_lt hA17))
  refine W.widen (k := 11) (n := 236) (by omega) (by omega) ?_
  refine z_putF hx hb hts in_X5_init tyX5 tyX5_ok nmX5 hown hK hO (Or.inl rfl) hS24 rfl 18 (by decide) lk_X5_init_50 rfl rfl hin rfl rfl rfl (Nat.le_of_ble_eq_true rfl) dX5_init_106 (fun H25 locs25 hO25 hz25 ho25 hS25 => ?_)
  have hO : va_at D vwCl (b, .inr (6, [.int (zI 0), .int (zI 0), .int (zI 100), .int (zI 40), .int (zI 2), .int (zI 0), .ref H3.size, .ref H5.size, .ref H7.size, .ref H9.size, .ref H11.size, .int (zI 0), .ref H13.size, .ref H15.size, .int (zI 0), .ref H17.size, .ref H19.size, .ref H21.size, .ref H23.size, .null, .null, .int (zI 0)])) H25 := hO25
  have hA18 := ha24
  have hA6 := hA6.kept (ho25 _ (by omega))
  have hA7 := hA7.kept (ho25 _ (by omega))
  have hA8 := hA8.kept (ho25 _ (by omega))
  have hA9 := hA9.kept (ho25 _ (by omega))
  have hA10 := hA10.kept (ho25 _ (by omega))
  have hA12 := hA12.kept (ho25 _ (by omega))
  have hA13 := hA13.kept (ho25 _ (by omega))
  have hA15 := hA15.kept (ho25 _ (by omega))
  have hA16 := hA16.kept (ho25 _ (by omega))
  have hA17 := hA17.kept (ho25 _ (by omega))
  have hA18 := hA18.kept (ho25 _ (by omega))
  refine lv_aload_n hx hb dX5_init_109 rfl (lv_at hl 0 rfl) ?_
  refine z_bipush hx hb dX5_init_110 (by decide +kernel) ?_
  refine z_newaI hx hb dX5_init_112 (hts (.arrayClass .int) (by decide +kernel)) hK hS25 (fun q h => Or.inr h) (n := 40) ⟨by decide, by decide⟩ (Nat.le_of_ble_eq_true rfl) (Nat.le_of_ble_eq_true rfl) (fun H26 ha26 hz26 ho26 hS26 => ?_)
  have hO := hO.kept (ho26 _ (z_lt hO))
  have hA6 := hA6.kept (ho26 _ (z_lt hA6))
  have hA7 := hA7.kept (ho26 _ (z_lt hA7))
  have hA8 := hA8.kept (ho26 _ (z_lt hA8))
  have hA9 := hA9.kept (ho26 _ (z_lt hA9))
  have hA10 := hA10.kept (ho26 _ (z_lt hA10))
  have hA12 := hA12.kept (ho26 _ (z_lt hA12))
  have hA13 := hA13.kept (ho26 _ (z_lt hA13))
  have hA15 := hA15.kept (ho26 _ (z_lt hA15))
  have hA16 := hA16.kept (ho26 _ (z_lt hA16))
  have hA17 := hA17.kept (ho26 _ (z_lt hA17))
  have hA18 := hA18.kept (ho26 _ (z_lt hA18))
  refine W.widen (k := 12) (n := 276) (by omega) (by omega) ?_
  refine z_putF hx hb hts in_X5_init tyX5 tyX5_ok nmX5 hown hK hO (Or.inl rfl) hS26 rfl 19 (by decide) lk_X5_init_53 rfl rfl hin rfl rfl rfl (Nat.le_of_ble_eq_true rfl) dX5_init_114 (fun H27 locs27 hO27 hz27 ho27 hS27 => ?_)
  have hO : va_at D vwCl (b, .inr (6, [.int (zI 0), .int (zI 0), .int (zI 100), .int (zI 40), .int (zI 2), .int (zI 0), .ref H3.size, .ref H5.size, .ref H7.size, .ref H9.size, .ref H11.size, .int (zI 0), .ref H13.size, .ref H15.size, .int (zI 0), .ref H17.size, .ref H19.size, .ref H21.size, .ref H23.size, .ref H25.size, .null, .int (zI 0)])) H27 := hO27
  have hA19 := ha26
  have hA6 := hA6.kept (ho27 _ (by omega))
  have hA7 := hA7.kept (ho27 _ (by omega))
  have hA8 := hA8.kept (ho27 _ (by omega))
  have hA9 := hA9.kept (ho27 _ (by omega))
  have hA10 := hA10.kept (ho27 _ (by omega))
  have hA12 := hA12.kept (ho27 _ (by omega))
  have hA13 := hA13.kept (ho27 _ (by omega))
  have hA15 := hA15.kept (ho27 _ (by omega))
  have hA16 := hA16.kept (ho27 _ (by omega))
  have hA17 := hA17.kept (ho27 _ (by omega))
  have hA18 := hA18.kept (ho27 _ (by omega))
  have hA19 := hA19.kept (ho27 _ (by omega))
  refine lv_aload_n hx hb dX5_init_117 rfl (lv_at hl 0 rfl) ?_
  refine z_bipush hx hb dX5_init_118 (by decide +kernel) ?_
  refine z_newaI hx hb dX5_init_120 (hts (.arrayClass .int) (by decide +kernel)) hK hS27 (fun q h => Or.inr h) (n := 40) ⟨by decide, by decide⟩ (Nat.le_of_ble_eq_true rfl) (Nat.le_of_ble_eq_true rfl) (fun H28 ha28 hz28 ho28 hS28 => ?_)
  have hO := hO.kept (ho28 _ (z_lt hO))
  have hA6 := hA6.kept (ho28 _ (z_lt hA6))
  have hA7 := hA7.kept (ho28 _ (z_lt hA7))
  have hA8 := hA8.kept (ho28 _ (z_lt hA8))
  have hA9 := hA9.kept (ho28 _ (z_lt hA9))
  have hA10 := hA10.kept (ho28 _ (z_lt hA10))
  have hA12 := hA12.kept (ho28 _ (z_lt hA12))
  have hA13 := hA13.kept (ho28 _ (z_lt hA13))
  have hA15 := hA15.kept (ho28 _ (z_lt hA15))
  have hA16 := hA16.kept (ho28 _ (z_lt hA16))
  have hA17 := hA17.kept (ho28 _ (z_lt hA17))
  have hA18 := hA18.kept (ho28 _ (z_lt hA18))
  have hA19 := hA19.kept (ho28 _ (z_lt hA19))
  refine W.widen (k := 13) (n := 316) (by omega) (by omega) ?_
  refine z_putF hx hb hts in_X5_init tyX5 tyX5_ok nmX5 hown hK hO (Or.inl rfl) hS28 rfl 20 (by decide) lk_X5_init_56 rfl rfl hin rfl rfl rfl (Nat.le_of_ble_eq_true rfl) dX5_init_122 (fun H29 locs29 hO29 hz29 ho29 hS29 => ?_)
  have hO : va_at D vwCl (b, .inr (6, [.int (zI 0), .int (zI 0), .int (zI 100), .int (zI 40), .int (zI 2), .int (zI 0), .ref H3.size, .ref H5.size, .ref H7.size, .ref H9.size, .ref H11.size, .int (zI 0), .ref H13.size, .ref H15.size, .int (zI 0), .ref H17.size, .ref H19.size, .ref H21.size, .ref H23.size, .ref H25.size, .ref H27.size, .int (zI 0)])) H29 := hO29
  have hA20 := ha28
  have hA6 := hA6.kept (ho29 _ (by omega))
  have hA7 := hA7.kept (ho29 _ (by omega))
  have hA8 := hA8.kept (ho29 _ (by omega))
  have hA9 := hA9.kept (ho29 _ (by omega))
  have hA10 := hA10.kept (ho29 _ (by omega))
  have hA12 := hA12.kept (ho29 _ (by omega))
  have hA13 := hA13.kept (ho29 _ (by omega))
  have hA15 := hA15.kept (ho29 _ (by omega))
  have hA16 := hA16.kept (ho29 _ (by omega))
  have hA17 := hA17.kept (ho29 _ (by omega))
  have hA18 := hA18.kept (ho29 _ (by omega))
  have hA19 := hA19.kept (ho29 _ (by omega))
  have hA20 := hA20.kept (ho29 _ (by omega))
  refine W.vret hx hb hr (fun t ht _ => ⟨rfl, (fun t => match t with | 6 => H3.size | 7 => H5.size | 8 => H7.size | 9 => H9.size | 10 => H11.size | 12 => H13.size | 13 => H15.size | 15 => H17.size | 16 => H19.size | 17 => H21.size | 18 => H23.size | 19 => H25.size | 20 => H27.size | _ => 0), ?_, ?_, ?_, ?_, ?_⟩) hS29.2.2 dX5_init_125
  · rw [ht]
    refine ⟨hO, fun t h => ?_⟩
    rcases isA_c h with rfl | rfl | rfl | rfl | rfl | rfl | rfl | rfl | rfl | rfl | rfl | rfl | rfl
    · exact hA6
    · exact hA7
    · exact hA8
    · exact hA9
    · exact hA10
    · exact hA12
    · exact hA13
    · exact hA15
    · exact hA16
    · exact hA17
    · exact hA18
    · exact hA19
    · exact hA20
  · refine ⟨fun t h => ?_, fun t u h h2 e => ?_⟩
    · rcases isA_c h with rfl | rfl | rfl | rfl | rfl | rfl | rfl | rfl | rfl | rfl | rfl | rfl | rfl <;> (simp only []; omega)
    · rcases isA_c h with rfl | rfl | rfl | rfl | rfl | rfl | rfl | rfl | rfl | rfl | rfl | rfl | rfl <;> rcases isA_c h2 with rfl | rfl | rfl | rfl | rfl | rfl | rfl | rfl | rfl | rfl | rfl | rfl | rfl <;> first | rfl | (exfalso; simp only [] at e; omega)
  · intro t9 h
    rw [ht]
    rcases isA_c h with rfl | rfl | rfl | rfl | rfl | rfl | rfl | rfl | rfl | rfl | rfl | rfl | rfl <;> (simp only []; omega)
  · rw [ht]; omega
  · intro q h1 h2; rw [ht]; exact hS29.2.1 q h1 (fun z => z.elim h2 (fun g => by omega))
