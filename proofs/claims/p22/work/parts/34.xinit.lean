/-! the class's constructors, but its own -/
section QI
variable {l : Launch} {p : Program} {e : Env} {R : Room} {s : State} {m : MethodId} {args : Array Value} {below : List Frame} {meth : Method} {c : Code} {H H0 : Heap} {locs : List Loc} {cells slots : Nat} {Q : State → Prop} {cc bytes : ByteArray} {pc nL maxL index n : Nat} {ls : Array Slot} {st0 rest As : List Value} {y : MethodName} {ws : List Cond} {rm : Room} {Ts : List Cond} {own host : String} {D : va_G} {cI cO cL : ClassId} {A F : Nat → Prop} {eE b mi : Nat} {sa : Nat → Nat}
theorem z_gI {P : Option Value → Heap → Prop} (S : CallFix p m c cc nL s args Ts own) (hM : zGM l y ws rm D cI cO cL A eE mi sa (.ref b :: As) H P F) (cw : CallB R s args own index y bytes maxL none ws rm rm.cells rm.slots n ∧ y.name = "<init>" ∧ (Cond.instanceMethod y).before args s = true) (hK : GK D cI cO cL A eE mi sa s) (hS : va_S A s.heap H locs)
    (hn : As.length = n) (hsize : ls.size = nL) (hst : st0 = As.reverse ++ .ref b :: rest) (hW : (rest.map fun v => v.category).sum ≤ 8) (hdg : decode cc pc = .ok (.invokespecial index, 3)) (hf : cells + rm.cells ≤ R.cells ∧ slots + rm.slots ≤ R.slots)
    (kk : ∀ (r : Option Value) (H1 : Heap) (L : List Loc), P r H1 → (∀ q ∈ L, F q.base) → W p l e R s m args below meth c H1 (locs ++ L) (cells + rm.cells) (slots + rm.slots) Q (F0 m (pc + 3) ls (r.toList ++ rest))) : W p l e R s m args below meth c H locs cells slots Q (F0 m pc ls st0) := by
  refine z_run (va_runI S hM cw ⟨fun a U g mk q => ⟨q.1, q.2.1, GK.same (u := U) (U := U.calling g mk a) rfl rfl q.2.2⟩, fun U hU hWm => ⟨rfl, hU, hK.warm hWm (by rw [hU]; exact hS.1) (fun q h1 h2 => by rw [hU]; exact hS.2.1 q h1 h2)⟩⟩ rfl hn hsize hst (lv_room (pc := pc) (ls := ls) (rest := st0) (m := m) hW) hdg hf) (fun v st₀ t H1 L h0 h1 hv hq hL => ?_)
  obtain ⟨r, hr1, hp⟩ := hq
  cases hr1
  exact kk v H1 L (by rw [← h1]; exact hp) hL
theorem z_gN {P : Option Value → Heap → Prop} (S : CallFix p m c cc nL s args Ts own) (hM : zGM l y ws rm D cI cO cL A eE mi sa (.ref b :: As) H P F) (cw : va_CN R s args own index y host bytes maxL none ws rm rm.cells rm.slots n ∧ y.name = "<init>" ∧ (Cond.instanceMethod y).before args s = true) (hK : GK D cI cO cL A eE mi sa s) (hS : va_S A s.heap H locs)
    (hn : As.length = n) (hsize : ls.size = nL) (hst : st0 = As.reverse ++ .ref b :: rest) (hW : (rest.map fun v => v.category).sum ≤ 8) (hdg : decode cc pc = .ok (.invokespecial index, 3)) (hf : cells + rm.cells ≤ R.cells ∧ slots + rm.slots ≤ R.slots)
    (kk : ∀ (r : Option Value) (H1 : Heap) (L : List Loc), P r H1 → (∀ q ∈ L, F q.base) → W p l e R s m args below meth c H1 (locs ++ L) (cells + rm.cells) (slots + rm.slots) Q (F0 m (pc + 3) ls (r.toList ++ rest))) : W p l e R s m args below meth c H locs cells slots Q (F0 m pc ls st0) := by
  refine z_run (va_runIN S hM cw ⟨fun a U g mk q => ⟨q.1, q.2.1, GK.same (u := U) (U := U.calling g mk a) rfl rfl q.2.2⟩, fun U hU hWm => ⟨rfl, hU, hK.warm hWm (by rw [hU]; exact hS.1) (fun q h1 h2 => by rw [hU]; exact hS.2.1 q h1 h2)⟩⟩ rfl hn hsize hst (lv_room (pc := pc) (ls := ls) (rest := st0) (m := m) hW) hdg hf) (fun v st₀ t H1 L h0 h1 hv hq hL => ?_)
  obtain ⟨r, hr1, hp⟩ := hq
  cases hr1
  exact kk v H1 L (by rw [← h1]; exact hp) hL
end QI

theorem lk_X2_init_7 : Cond.fieldLink RX2 7 "HarbourPilotline$Ship" "number" "I" ∈ wsX2_init := by decide +kernel
theorem lk_X2_init_13 : Cond.fieldLink RX2 13 "HarbourPilotline$Ship" "draught" "I" ∈ wsX2_init := by decide +kernel
theorem lk_X2_init_16 : Cond.fieldLink RX2 16 "HarbourPilotline$Ship" "tons" "I" ∈ wsX2_init := by decide +kernel
theorem lk_X2_init_19 : Cond.fieldLink RX2 19 "HarbourPilotline$Ship" "minutes" "I" ∈ wsX2_init := by decide +kernel
theorem lk_X2_init_22 : Cond.fieldLink RX2 22 "HarbourPilotline$Ship" "tugs" "I" ∈ wsX2_init := by decide +kernel
theorem in_X2_init : ∀ w ∈ wsX20, w ∈ wsX2_init := by decide +kernel
set_option maxRecDepth 100000 in
set_option maxHeartbeats 4000000 in
theorem c_X2_init (l : Launch) (D : va_G) (cI cO cL : ClassId) (A : Nat → Prop) (eE mi : Nat) (sa : Nat → Nat) (H0 : Heap) (b : Nat) (k d t n g : Int) (hO : va_at D vwCl (b, .inr (3, [.int (zI 0), .int (zI 0), .int (zI 0), .int (zI 0), .int (zI 0), .int (zI 0)])) H0) : zGM l yX2_init wsX2_init ({ frames := 1, cells := 0, slots := 0, locals := 24 }) D cI cO cL A eE mi sa [.ref b, .int (zI k), .int (zI d), .int (zI t), .int (zI n), .int (zI g)] H0 (fun rv H1 => rv = none ∧ va_at D vwCl (b, .inr (3, [.int (zI k), .int (zI d), .int (zI t), .int (zI n), .int (zI g), .int (zI 0)])) H1 ∧ H1.size = H0.size ∧ ∀ q : Nat, q ≠ b → H1[q]? = H0[q]?) (fun q => q = b) := by
  refine Met.ofW (cc := cX2_init) (maxL := 6) (ret := none) (by decide) rfl ?_
  intro p e s m args below meth c s₁ B hml hv
  obtain ⟨rfl, hH, hG⟩ := hv
  subst hH
  have hK := hG.k
  have hx := B.exec
  have hb := B.bytes
  have hr := B.returns
  have hts := atoms_spec (ws := wsX2_init) B.pre
  have hown : s.vm.findClass RX2 = some m.cls := findClass_of_methodNamed B.named
  have hlocks := B.notSynchronized
  have hin : meth.name = "<init>" := (name_of_methodNamed B.named B.method).1
  have hl := lv_entry ([.ref b, .int (zI k), .int (zI d), .int (zI t), .int (zI n), .int (zI g)]) (n := 6) (Nat.le_of_ble_eq_true rfl)
  rw [lg_entry_eq]
  generalize (lg_sl ([.ref b, .int (zI k), .int (zI d), .int (zI t), .int (zI n), .int (zI g)]) ++ List.replicate (6 - (lg_sl ([.ref b, .int (zI k), .int (zI d), .int (zI t), .int (zI n), .int (zI g)])).length) Slot.unset).toArray = ls at hl ⊢
  have hl : lv_has ls 6 [(0, .ref b), (1, .int (zI k)), (2, .int (zI d)), (3, .int (zI t)), (4, .int (zI n)), (5, .int (zI g))] := hl
  refine lv_aload_n hx hb dX2_init_0 rfl (lv_at hl 0 rfl) ?_
  refine W.objInit hx hb hown (hts (.methodLink RX2 1 objectInit) (by decide +kernel)) (hts (.instanceMethod objectInit) (by decide +kernel)) (hts _ (List.mem_cons_of_mem _ (List.mem_append_left _ (List.mem_of_getElem? (i := 2) rfl)))) rfl (by rw [hml]; exact hl.1) rfl dX2_init_1 (Nat.le_of_ble_eq_true rfl) (Nat.le_of_ble_eq_true rfl) ?_
  refine W.eq (g2 := F0 m 4 ls []) rfl ?_
  refine lv_aload_n hx hb dX2_init_4 rfl (lv_at hl 0 rfl) ?_
  refine lv_iload_n hx hb dX2_init_5 rfl (lv_at hl 1 rfl) ?_
  refine z_putF (A := fun q => q = b) hx hb hts in_X2_init tyX2 tyX2_ok nmX2 hown hK hO rfl (va_S.rf (A := fun q => q = b) (H0 := s.heap)) rfl 0 (by decide) lk_X2_init_7 rfl rfl hin rfl rfl rfl (Nat.le_of_ble_eq_true rfl) dX2_init_6 (fun H1 locs1 hO1 hz1 ho1 hS1 => ?_)
  have hO : va_at D vwCl (b, .inr (3, [.int (zI k), .int (zI 0), .int (zI 0), .int (zI 0), .int (zI 0), .int (zI 0)])) H1 := hO1
  refine lv_aload_n hx hb dX2_init_9 rfl (lv_at hl 0 rfl) ?_
  refine lv_iload_n hx hb dX2_init_10 rfl (lv_at hl 2 rfl) ?_
  refine z_putF (A := fun q => q = b) hx hb hts in_X2_init tyX2 tyX2_ok nmX2 hown hK hO rfl hS1 rfl 1 (by decide) lk_X2_init_13 rfl rfl hin rfl rfl rfl (Nat.le_of_ble_eq_true rfl) dX2_init_11 (fun H2 locs2 hO2 hz2 ho2 hS2 => ?_)
  have hO : va_at D vwCl (b, .inr (3, [.int (zI k), .int (zI d), .int (zI 0), .int (zI 0), .int (zI 0), .int (zI 0)])) H2 := hO2
  refine lv_aload_n hx hb dX2_init_14 rfl (lv_at hl 0 rfl) ?_
  refine lv_iload_n hx hb dX2_init_15 rfl (lv_at hl 3 rfl) ?_
  refine z_putF (A := fun q => q = b) hx hb hts in_X2_init tyX2 tyX2_ok nmX2 hown hK hO rfl hS2 rfl 2 (by decide) lk_X2_init_16 rfl rfl hin rfl rfl rfl (Nat.le_of_ble_eq_true rfl) dX2_init_16 (fun H3 locs3 hO3 hz3 ho3 hS3 => ?_)
  have hO : va_at D vwCl (b, .inr (3, [.int (zI k), .int (zI d), .int (zI t), .int (zI 0), .int (zI 0), .int (zI 0)])) H3 := hO3
  refine lv_aload_n hx hb dX2_init_19 rfl (lv_at hl 0 rfl) ?_
  refine lv_iload hx hb dX2_init_20 (lv_at hl 4 rfl) ?_
  refine z_putF (A := fun q => q = b) hx hb hts in_X2_init tyX2 tyX2_ok nmX2 hown hK hO rfl hS3 rfl 3 (by decide) lk_X2_init_19 rfl rfl hin rfl rfl rfl (Nat.le_of_ble_eq_true rfl) dX2_init_22 (fun H4 locs4 hO4 hz4 ho4 hS4 => ?_)
  have hO : va_at D vwCl (b, .inr (3, [.int (zI k), .int (zI d), .int (zI t), .int (zI n), .int (zI 0), .int (zI 0)])) H4 := hO4
  refine lv_aload_n hx hb dX2_init_25 rfl (lv_at hl 0 rfl) ?_
  refine lv_iload hx hb dX2_init_26 (lv_at hl 5 rfl) ?_
  refine z_putF (A := fun q => q = b) hx hb hts in_X2_init tyX2 tyX2_ok nmX2 hown hK hO rfl hS4 rfl 4 (by decide) lk_X2_init_22 rfl rfl hin rfl rfl rfl (Nat.le_of_ble_eq_true rfl) dX2_init_28 (fun H5 locs5 hO5 hz5 ho5 hS5 => ?_)
  have hO : va_at D vwCl (b, .inr (3, [.int (zI k), .int (zI d), .int (zI t), .int (zI n), .int (zI g), .int (zI 0)])) H5 := hO5
  exact W.vret hx hb hr (z_endP (P := fun rv H1 => rv = none ∧ va_at D vwCl (b, .inr (3, [.int (zI k), .int (zI d), .int (zI t), .int (zI n), .int (zI g), .int (zI 0)])) H1 ∧ H1.size = s.heap.size ∧ ∀ q : Nat, q ≠ b → H1[q]? = s.heap[q]?) ⟨rfl, hO, hz5.trans (hz4.trans (hz3.trans (hz2.trans (hz1.trans (rfl))))), (fun q h => (ho5 q h).trans ((ho4 q h).trans ((ho3 q h).trans ((ho2 q h).trans ((ho1 q h).trans (rfl))))))⟩) hS5.2.2 dX2_init_31

theorem lk_X1_init_7 : Cond.fieldLink RX1 7 "HarbourPilotline$Pilot" "number" "I" ∈ wsX1_init := by decide +kernel
theorem lk_X1_init_13 : Cond.fieldLink RX1 13 "HarbourPilotline$Pilot" "licence" "I" ∈ wsX1_init := by decide +kernel
theorem lk_X1_init_16 : Cond.fieldLink RX1 16 "HarbourPilotline$Pilot" "rate" "I" ∈ wsX1_init := by decide +kernel
theorem in_X1_init : ∀ w ∈ wsX10, w ∈ wsX1_init := by decide +kernel
set_option maxRecDepth 100000 in
set_option maxHeartbeats 4000000 in
theorem c_X1_init (l : Launch) (D : va_G) (cI cO cL : ClassId) (A : Nat → Prop) (eE mi : Nat) (sa : Nat → Nat) (H0 : Heap) (b : Nat) (k a r : Int) (hO : va_at D vwCl (b, .inr (2, [.int (zI 0), .int (zI 0), .int (zI 0), .int (zI 0), .int (zI 0)])) H0) : zGM l yX1_init wsX1_init ({ frames := 1, cells := 0, slots := 0, locals := 24 }) D cI cO cL A eE mi sa [.ref b, .int (zI k), .int (zI a), .int (zI r)] H0 (fun rv H1 => rv = none ∧ va_at D vwCl (b, .inr (2, [.int (zI k), .int (zI a), .int (zI r), .int (zI 0), .int (zI 0)])) H1 ∧ H1.size = H0.size ∧ ∀ q : Nat, q ≠ b → H1[q]? = H0[q]?) (fun q => q = b) := by
  refine Met.ofW (cc := cX1_init) (maxL := 4) (ret := none) (by decide) rfl ?_
  intro p e s m args below meth c s₁ B hml hv
  obtain ⟨rfl, hH, hG⟩ := hv
  subst hH
  have hK := hG.k
  have hx := B.exec
  have hb := B.bytes
  have hr := B.returns
  have hts := atoms_spec (ws := wsX1_init) B.pre
  have hown : s.vm.findClass RX1 = some m.cls := findClass_of_methodNamed B.named
  have hlocks := B.notSynchronized
  have hin : meth.name = "<init>" := (name_of_methodNamed B.named B.method).1
  have hl := lv_entry ([.ref b, .int (zI k), .int (zI a), .int (zI r)]) (n := 4) (Nat.le_of_ble_eq_true rfl)
  rw [lg_entry_eq]
  generalize (lg_sl ([.ref b, .int (zI k), .int (zI a), .int (zI r)]) ++ List.replicate (4 - (lg_sl ([.ref b, .int (zI k), .int (zI a), .int (zI r)])).length) Slot.unset).toArray = ls at hl ⊢
  have hl : lv_has ls 4 [(0, .ref b), (1, .int (zI k)), (2, .int (zI a)), (3, .int (zI r))] := hl
  refine lv_aload_n hx hb dX1_init_0 rfl (lv_at hl 0 rfl) ?_
  refine W.objInit hx hb hown (hts (.methodLink RX1 1 objectInit) (by decide +kernel)) (hts (.instanceMethod objectInit) (by decide +kernel)) (hts _ (List.mem_cons_of_mem _ (List.mem_append_left _ (List.mem_of_getElem? (i := 2) rfl)))) rfl (by rw [hml]; exact hl.1) rfl dX1_init_1 (Nat.le_of_ble_eq_true rfl) (Nat.le_of_ble_eq_true rfl) ?_
  refine W.eq (g2 := F0 m 4 ls []) rfl ?_
  refine lv_aload_n hx hb dX1_init_4 rfl (lv_at hl 0 rfl) ?_
  refine lv_iload_n hx hb dX1_init_5 rfl (lv_at hl 1 rfl) ?_
  refine z_putF (A := fun q => q = b) hx hb hts in_X1_init tyX1 tyX1_ok nmX1 hown hK hO rfl (va_S.rf (A := fun q => q = b) (H0 := s.heap)) rfl 0 (by decide) lk_X1_init_7 rfl rfl hin rfl rfl rfl (Nat.le_of_ble_eq_true rfl) dX1_init_6 (fun H1 locs1 hO1 hz1 ho1 hS1 => ?_)
  have hO : va_at D vwCl (b, .inr (2, [.int (zI k), .int (zI 0), .int (zI 0), .int (zI 0), .int (zI 0)])) H1 := hO1
  refine lv_aload_n hx hb dX1_init_9 rfl (lv_at hl 0 rfl) ?_
  refine lv_iload_n hx hb dX1_init_10 rfl (lv_at hl 2 rfl) ?_
  refine z_putF (A := fun q => q = b) hx hb hts in_X1_init tyX1 tyX1_ok nmX1 hown hK hO rfl hS1 rfl 1 (by decide) lk_X1_init_13 rfl rfl hin rfl rfl rfl (Nat.le_of_ble_eq_true rfl) dX1_init_11 (fun H2 locs2 hO2 hz2 ho2 hS2 => ?_)
  have hO : va_at D vwCl (b, .inr (2, [.int (zI k), .int (zI a), .int (zI 0), .int (zI 0), .int (zI 0)])) H2 := hO2
  refine lv_aload_n hx hb dX1_init_14 rfl (lv_at hl 0 rfl) ?_
  refine lv_iload_n hx hb dX1_init_15 rfl (lv_at hl 3 rfl) ?_
  refine z_putF (A := fun q => q = b) hx hb hts in_X1_init tyX1 tyX1_ok nmX1 hown hK hO rfl hS2 rfl 2 (by decide) lk_X1_init_16 rfl rfl hin rfl rfl rfl (Nat.le_of_ble_eq_true rfl) dX1_init_16 (fun H3 locs3 hO3 hz3 ho3 hS3 => ?_)
  have hO : va_at D vwCl (b, .inr (2, [.int (zI k), .int (zI a), .int (zI r), .int (zI 0), .int (zI 0)])) H3 := hO3
  exact W.vret hx hb hr (z_endP (P := fun rv H1 => rv = none ∧ va_at D vwCl (b, .inr (2, [.int (zI k), .int (zI a), .int (zI r), .int (zI 0), .int (zI 0)])) H1 ∧ H1.size = s.heap.size ∧ ∀ q : Nat, q ≠ b → H1[q]? = s.heap[q]?) ⟨rfl, hO, hz3.trans (hz2.trans (hz1.trans (rfl))), (fun q h => (ho3 q h).trans ((ho2 q h).trans ((ho1 q h).trans (rfl))))⟩) hS3.2.2 dX1_init_19

theorem lk_X0_init_9 : Cond.fieldLink RX0 9 "HarbourPilotline$Conference" "state" "I" ∈ wsX0_init := by decide +kernel
theorem lk_X0_init_15 : Cond.fieldLink RX0 15 "HarbourPilotline$Conference" "slot" "I" ∈ wsX0_init := by decide +kernel
theorem lk_X0_init_18 : Cond.fieldLink RX0 18 "HarbourPilotline$Conference" "ship" "LHarbourPilotline$Ship;" ∈ wsX0_init := by decide +kernel
theorem lk_X0_init_22 : Cond.fieldLink RX0 22 "HarbourPilotline$Conference" "wish" "I" ∈ wsX0_init := by decide +kernel
theorem in_X0_init : ∀ w ∈ wsX00, w ∈ wsX0_init := by decide +kernel
set_option maxRecDepth 100000 in
set_option maxHeartbeats 4000000 in
theorem c_X0_init (l : Launch) (D : va_G) (cI cO cL : ClassId) (A : Nat → Prop) (eE mi : Nat) (sa : Nat → Nat) (H0 : Heap) (b : Nat) (sh : Nat) (w : Int) (hO : va_at D vwCl (b, .inr (1, [.null, .int (zI 0), .int (zI 0), .int (zI 0), .null, .int (zI 0), .int (zI 0)])) H0) : zGM l yX0_init wsX0_init ({ frames := 1, cells := 0, slots := 0, locals := 24 }) D cI cO cL A eE mi sa [.ref b, .ref sh, .int (zI w)] H0 (fun rv H1 => rv = none ∧ va_at D vwCl (b, .inr (1, [.ref sh, .int (zI w), .int (zI 0), .int (zI 0), .null, .int (zI 0), .int (zI (-1))])) H1 ∧ H1.size = H0.size ∧ ∀ q : Nat, q ≠ b → H1[q]? = H0[q]?) (fun q => q = b) := by
  refine Met.ofW (cc := cX0_init) (maxL := 3) (ret := none) (by decide) rfl ?_
  intro p e s m args below meth c s₁ B hml hv
  obtain ⟨rfl, hH, hG⟩ := hv
  subst hH
  have hK := hG.k
  have hx := B.exec
  have hb := B.bytes
  have hr := B.returns
  have hts := atoms_spec (ws := wsX0_init) B.pre
  have hown : s.vm.findClass RX0 = some m.cls := findClass_of_methodNamed B.named
  have hlocks := B.notSynchronized
  have hin : meth.name = "<init>" := (name_of_methodNamed B.named B.method).1
  have hl := lv_entry ([.ref b, .ref sh, .int (zI w)]) (n := 3) (Nat.le_of_ble_eq_true rfl)
  rw [lg_entry_eq]
  generalize (lg_sl ([.ref b, .ref sh, .int (zI w)]) ++ List.replicate (3 - (lg_sl ([.ref b, .ref sh, .int (zI w)])).length) Slot.unset).toArray = ls at hl ⊢
  have hl : lv_has ls 3 [(0, .ref b), (1, .ref sh), (2, .int (zI w))] := hl
  refine lv_aload_n hx hb dX0_init_0 rfl (lv_at hl 0 rfl) ?_
  refine W.objInit hx hb hown (hts (.methodLink RX0 3 objectInit) (by decide +kernel)) (hts (.instanceMethod objectInit) (by decide +kernel)) (hts _ (List.mem_cons_of_mem _ (List.mem_append_left _ (List.mem_of_getElem? (i := 2) rfl)))) rfl (by rw [hml]; exact hl.1) rfl dX0_init_1 (Nat.le_of_ble_eq_true rfl) (Nat.le_of_ble_eq_true rfl) ?_
  refine W.eq (g2 := F0 m 4 ls []) rfl ?_
  refine lv_aload_n hx hb dX0_init_4 rfl (lv_at hl 0 rfl) ?_
  refine z_iconst hx hb dX0_init_5 ?_
  refine z_put (A := fun q => q = b) hx hb hts in_X0_init tyX0 tyX0_ok nmX0 hown hK hO rfl (va_S.rf (A := fun q => q = b) (H0 := s.heap)) rfl 5 (by decide) lk_X0_init_9 rfl rfl rfl rfl (Nat.le_of_ble_eq_true rfl) dX0_init_6 (fun H1 locs1 hO1 hz1 ho1 hS1 => ?_)
  have hO : va_at D vwCl (b, .inr (1, [.null, .int (zI 0), .int (zI 0), .int (zI 0), .null, .int (zI 0), .int (zI 0)])) H1 := hO1
  refine lv_aload_n hx hb dX0_init_9 rfl (lv_at hl 0 rfl) ?_
  refine z_iconst hx hb dX0_init_10 ?_
  refine z_put (A := fun q => q = b) hx hb hts in_X0_init tyX0 tyX0_ok nmX0 hown hK hO rfl hS1 rfl 6 (by decide) lk_X0_init_15 rfl rfl rfl rfl (Nat.le_of_ble_eq_true rfl) dX0_init_11 (fun H2 locs2 hO2 hz2 ho2 hS2 => ?_)
  have hO : va_at D vwCl (b, .inr (1, [.null, .int (zI 0), .int (zI 0), .int (zI 0), .null, .int (zI 0), .int (zI (-1))])) H2 := hO2
  refine lv_aload_n hx hb dX0_init_14 rfl (lv_at hl 0 rfl) ?_
  refine lv_aload_n hx hb dX0_init_15 rfl (lv_at hl 1 rfl) ?_
  refine z_putF (A := fun q => q = b) hx hb hts in_X0_init tyX0 tyX0_ok nmX0 hown hK hO rfl hS2 rfl 0 (by decide) lk_X0_init_18 rfl rfl hin rfl rfl rfl (Nat.le_of_ble_eq_true rfl) dX0_init_16 (fun H3 locs3 hO3 hz3 ho3 hS3 => ?_)
  have hO : va_at D vwCl (b, .inr (1, [.ref sh, .int (zI 0), .int (zI 0), .int (zI 0), .null, .int (zI 0), .int (zI (-1))])) H3 := hO3
  refine lv_aload_n hx hb dX0_init_19 rfl (lv_at hl 0 rfl) ?_
  refine lv_iload_n hx hb dX0_init_20 rfl (lv_at hl 2 rfl) ?_
  refine z_putF (A := fun q => q = b) hx hb hts in_X0_init tyX0 tyX0_ok nmX0 hown hK hO rfl hS3 rfl 1 (by decide) lk_X0_init_22 rfl rfl hin rfl rfl rfl (Nat.le_of_ble_eq_true rfl) dX0_init_21 (fun H4 locs4 hO4 hz4 ho4 hS4 => ?_)
  have hO : va_at D vwCl (b, .inr (1, [.ref sh, .int (zI w), .int (zI 0), .int (zI 0), .null, .int (zI 0), .int (zI (-1))])) H4 := hO4
  exact W.vret hx hb hr (z_endP (P := fun rv H1 => rv = none ∧ va_at D vwCl (b, .inr (1, [.ref sh, .int (zI w), .int (zI 0), .int (zI 0), .null, .int (zI 0), .int (zI (-1))])) H1 ∧ H1.size = s.heap.size ∧ ∀ q : Nat, q ≠ b → H1[q]? = s.heap[q]?) ⟨rfl, hO, hz4.trans (hz3.trans (hz2.trans (hz1.trans (rfl)))), (fun q h => (ho4 q h).trans ((ho3 q h).trans ((ho2 q h).trans ((ho1 q h).trans (rfl)))))⟩) hS4.2.2 dX0_init_24

theorem lk_X3_init_7 : Cond.fieldLink RX3 7 "HarbourPilotline$Tide" "depth" "I" ∈ wsX3_init := by decide +kernel
theorem lk_X3_init_13 : Cond.fieldLink RX3 13 "HarbourPilotline$Tide" "rise" "I" ∈ wsX3_init := by decide +kernel
theorem in_X3_init : ∀ w ∈ wsX30, w ∈ wsX3_init := by decide +kernel
set_option maxRecDepth 100000 in
set_option maxHeartbeats 4000000 in
theorem c_X3_init (l : Launch) (D : va_G) (cI cO cL : ClassId) (A : Nat → Prop) (eE mi : Nat) (sa : Nat → Nat) (H0 : Heap) (b : Nat)  (hO : va_at D vwCl (b, .inr (4, [.int (zI 0), .int (zI 0)])) H0) : zGM l yX3_init wsX3_init ({ frames := 1, cells := 0, slots := 0, locals := 24 }) D cI cO cL A eE mi sa [.ref b] H0 (fun rv H1 => rv = none ∧ va_at D vwCl (b, .inr (4, [.int (zI 100), .int (zI 40)])) H1 ∧ H1.size = H0.size ∧ ∀ q : Nat, q ≠ b → H1[q]? = H0[q]?) (fun q => q = b) := by
  refine Met.ofW (cc := cX3_init) (maxL := 1) (ret := none) (by decide) rfl ?_
  intro p e s m args below meth c s₁ B hml hv
  obtain ⟨rfl, hH, hG⟩ := hv
  subst hH
  have hK := hG.k
  have hx := B.exec
  have hb := B.bytes
  have hr := B.returns
  have hts := atoms_spec (ws := wsX3_init) B.pre
  have hown : s.vm.findClass RX3 = some m.cls := findClass_of_methodNamed B.named
  have hlocks := B.notSynchronized
  have hin : meth.name = "<init>" := (name_of_methodNamed B.named B.method).1
  have hl := lv_entry ([.ref b]) (n := 1) (Nat.le_of_ble_eq_true rfl)
  rw [lg_entry_eq]
  generalize (lg_sl ([.ref b]) ++ List.replicate (1 - (lg_sl ([.ref b])).length) Slot.unset).toArray = ls at hl ⊢
  have hl : lv_has ls 1 [(0, .ref b)] := hl
  refine lv_aload_n hx hb dX3_init_0 rfl (lv_at hl 0 rfl) ?_
  refine W.objInit hx hb hown (hts (.methodLink RX3 1 objectInit) (by decide +kernel)) (hts (.instanceMethod objectInit) (by decide +kernel)) (hts _ (List.mem_cons_of_mem _ (List.mem_append_left _ (List.mem_of_getElem? (i := 2) rfl)))) rfl (by rw [hml]; exact hl.1) rfl dX3_init_1 (Nat.le_of_ble_eq_true rfl) (Nat.le_of_ble_eq_true rfl) ?_
  refine W.eq (g2 := F0 m 4 ls []) rfl ?_
  refine lv_aload_n hx hb dX3_init_4 rfl (lv_at hl 0 rfl) ?_
  refine z_bipush hx hb dX3_init_5 (by decide +kernel) ?_
  refine z_put (A := fun q => q = b) hx hb hts in_X3_init tyX3 tyX3_ok nmX3 hown hK hO rfl (va_S.rf (A := fun q => q = b) (H0 := s.heap)) rfl 0 (by decide) lk_X3_init_7 rfl rfl rfl rfl (Nat.le_of_ble_eq_true rfl) dX3_init_7 (fun H1 locs1 hO1 hz1 ho1 hS1 => ?_)
  have hO : va_at D vwCl (b, .inr (4, [.int (zI 100), .int (zI 0)])) H1 := hO1
  refine lv_aload_n hx hb dX3_init_10 rfl (lv_at hl 0 rfl) ?_
  refine z_bipush hx hb dX3_init_11 (by decide +kernel) ?_
  refine z_put (A := fun q => q = b) hx hb hts in_X3_init tyX3 tyX3_ok nmX3 hown hK hO rfl hS1 rfl 1 (by decide) lk_X3_init_13 rfl rfl rfl rfl (Nat.le_of_ble_eq_true rfl) dX3_init_13 (fun H2 locs2 hO2 hz2 ho2 hS2 => ?_)
  have hO : va_at D vwCl (b, .inr (4, [.int (zI 100), .int (zI 40)])) H2 := hO2
  exact W.vret hx hb hr (z_endP (P := fun rv H1 => rv = none ∧ va_at D vwCl (b, .inr (4, [.int (zI 100), .int (zI 40)])) H1 ∧ H1.size = s.heap.size ∧ ∀ q : Nat, q ≠ b → H1[q]? = s.heap[q]?) ⟨rfl, hO, hz2.trans (hz1.trans (rfl)), (fun q h => (ho2 q h).trans ((ho1 q h).trans (rfl)))⟩) hS2.2.2 dX3_init_16

set_option maxRecDepth 100000 in
set_option maxHeartbeats 4000000 in
theorem c_Jxa1e45_init_da8c8 (l : Launch) (D : va_G) (cI cO cL : ClassId) (A : Nat → Prop) (eE mi : Nat) (sa : Nat → Nat) (H0 : Heap) (b : Nat) : zGM l yJxa1e45_init_da8c8 wsJxa1e45_init_da8c8 ({ frames := 1, cells := 0, slots := 0, locals := 24 }) D cI cO cL A eE mi sa [.ref b] H0 (fun rv H1 => rv = none ∧ H1 = H0) (fun _ => False) := by
  refine Met.ofW (cc := cJxa1e45_init_da8c8) (maxL := 1) (ret := none) (by decide) rfl ?_
  intro p e s m args below meth c s₁ B hml hv
  obtain ⟨rfl, hH, hG⟩ := hv
  subst hH
  have hK := hG.k
  have hx := B.exec
  have hb := B.bytes
  have hr := B.returns
  have hts := atoms_spec (ws := wsJxa1e45_init_da8c8) B.pre
  have hown : s.vm.findClass RJxa1e45 = some m.cls := findClass_of_methodNamed B.named
  have hlocks := B.notSynchronized
  have hin : meth.name = "<init>" := (name_of_methodNamed B.named B.method).1
  have hl := lv_entry ([.ref b]) (n := 1) (Nat.le_of_ble_eq_true rfl)
  rw [lg_entry_eq]
  generalize (lg_sl ([.ref b]) ++ List.replicate (1 - (lg_sl ([.ref b])).length) Slot.unset).toArray = ls at hl ⊢
  have hl : lv_has ls 1 [(0, .ref b)] := hl
  refine lv_aload_n hx hb dJxa1e45_init_da8c8_0 rfl (lv_at hl 0 rfl) ?_
  refine W.objInit hx hb hown (hts (.methodLink RJxa1e45 1 objectInit) (by decide +kernel)) (hts (.instanceMethod objectInit) (by decide +kernel)) (hts _ (List.mem_cons_of_mem _ (List.mem_of_getElem? (i := 2) rfl))) rfl (by rw [hml]; exact hl.1) rfl dJxa1e45_init_da8c8_1 (Nat.le_of_ble_eq_true rfl) (Nat.le_of_ble_eq_true rfl) ?_
  refine W.eq (g2 := F0 m 4 ls []) rfl ?_
  exact W.vret hx hb hr (z_endP (P := fun rv H1 => rv = none ∧ H1 = s.heap) ⟨rfl, rfl⟩) (fun _ h => nomatch h) dJxa1e45_init_da8c8_4

theorem lk_Jxc12de_init_da8c8_7 : Cond.fieldLink RJxc12de 7 "java/util/AbstractList" "modCount" "I" ∈ wsJxc12de_init_da8c8 := by decide +kernel
theorem in_Jxc12de_init_da8c8 : ∀ w ∈ wsJx4a65c0, w ∈ wsJxc12de_init_da8c8 := by decide +kernel
theorem lm_Jxc12de_init_da8c8 : Cond.methodLink RJxc12de 1 yJxa1e45_init_da8c8 ∈ wsJxc12de_init_da8c8 ∧ Cond.instanceMethod yJxa1e45_init_da8c8 ∈ wsJxc12de_init_da8c8 ∧ Cond.initialized RJxa1e45 ∈ wsJxc12de_init_da8c8 := by decide +kernel
set_option maxRecDepth 100000 in
set_option maxHeartbeats 4000000 in
theorem c_Jxc12de_init_da8c8 (l : Launch) (D : va_G) (cI cO cL : ClassId) (A : Nat → Prop) (eE mi : Nat) (sa : Nat → Nat) (H0 : Heap) (b : Nat) (hO : va_at D vwCl (b, .inr (0, [.int (zI 0), .null, .int (zI 0)])) H0) : zGM l yJxc12de_init_da8c8 wsJxc12de_init_da8c8 ({ frames := 2, cells := 0, slots := 0, locals := 50 }) D cI cO cL A eE mi sa [.ref b] H0 (fun rv H1 => rv = none ∧ va_at D vwCl (b, .inr (0, [.int (zI 0), .null, .int (zI 0)])) H1 ∧ H1.size = H0.size ∧ ∀ q : Nat, q ≠ b → H1[q]? = H0[q]?) (fun q => q = b) := by
  refine Met.ofW (cc := cJxc12de_init_da8c8) (maxL := 1) (ret := none) (by decide) rfl ?_
  intro p e s m args below meth c s₁ B hml hv
  obtain ⟨rfl, hH, hG⟩ := hv
  subst hH
  have hK := hG.k
  have hx := B.exec
  have hb := B.bytes
  have hr := B.returns
  have hts := atoms_spec (ws := wsJxc12de_init_da8c8) B.pre
  have hown : s.vm.findClass RJxc12de = some m.cls := findClass_of_methodNamed B.named
  have hlocks := B.notSynchronized
  have hin : meth.name = "<init>" := (name_of_methodNamed B.named B.method).1
  have hl := lv_entry ([.ref b]) (n := 1) (Nat.le_of_ble_eq_true rfl)
  rw [lg_entry_eq]
  generalize (lg_sl ([.ref b]) ++ List.replicate (1 - (lg_sl ([.ref b])).length) Slot.unset).toArray = ls at hl ⊢
  have hl : lv_has ls 1 [(0, .ref b)] := hl
  refine lv_aload_n hx hb dJxc12de_init_da8c8_0 rfl (lv_at hl 0 rfl) ?_
  refine z_gI (As := []) (rest := []) ⟨hx, hb, hml, hown, hts⟩ (c_Jxa1e45_init_da8c8 l D cI cO cL A eE mi sa s.heap b) (cwI 0 hts gJxc12de_init_da8c8_Jxa1e45_init_da8c8 rfl rfl rfl (hts _ lm_Jxc12de_init_da8c8.2.2) (hts _ lm_Jxc12de_init_da8c8.1) (hts _ lm_Jxc12de_init_da8c8.2.1) rfl (by decide +kernel) ⟨(Nat.le_of_ble_eq_true rfl), (Nat.le_of_ble_eq_true rfl)⟩) hG va_S.rf rfl hl.1 rfl (Nat.le_of_ble_eq_true rfl) dJxc12de_init_da8c8_1 ⟨(Nat.le_of_ble_eq_true rfl), (Nat.le_of_ble_eq_true rfl)⟩ (fun r H1 L hp hL => ?_)
  obtain ⟨e1, e2⟩ := hp
  rw [e1, e2]
  have hL0 : ([] : List Loc) ++ L = [] := by
    cases L with
    | nil => rfl
    | cons x xs => exact absurd (hL x List.mem_cons_self) id
  rw [hL0]
  refine lv_aload_n hx hb dJxc12de_init_da8c8_4 rfl (lv_at hl 0 rfl) ?_
  refine z_iconst hx hb dJxc12de_init_da8c8_5 ?_
  refine z_put (A := fun q => q = b) hx hb hts in_Jxc12de_init_da8c8 tyJx4a65c tyJx4a65c_ok nmJx4a65c hown hK hO rfl (va_S.rf (A := fun q => q = b) (H0 := s.heap)) rfl 0 (by decide) lk_Jxc12de_init_da8c8_7 rfl rfl rfl rfl (Nat.le_of_ble_eq_true rfl) dJxc12de_init_da8c8_6 (fun H1 locs1 hO1 hz1 ho1 hS1 => ?_)
  exact W.vret hx hb hr (z_endP (P := fun rv H1 => rv = none ∧ va_at D vwCl (b, .inr (0, [.int (zI 0), .null, .int (zI 0)])) H1 ∧ H1.size = s.heap.size ∧ ∀ q : Nat, q ≠ b → H1[q]? = s.heap[q]?) ⟨rfl, hO1, hz1, ho1⟩) hS1.2.2 dJxc12de_init_da8c8_9

theorem lk_Jx4a65c_init_da8c8_9 : Cond.fieldLink RJx4a65c 9 "java/util/ArrayList" "elementData" "[Ljava/lang/Object;" ∈ wsJx4a65c_init_da8c8 := by decide +kernel
theorem lk_Jx4a65c_init_da8c8_39 : Cond.fieldLink RJx4a65c 39 "java/util/ArrayList" "DEFAULTCAPACITY_EMPTY_ELEMENTDATA" "[Ljava/lang/Object;" ∈ wsJx4a65c_init_da8c8 := by decide +kernel
theorem in_Jx4a65c_init_da8c8 : ∀ w ∈ wsJx4a65c0, w ∈ wsJx4a65c_init_da8c8 := by decide +kernel
theorem lm_Jx4a65c_init_da8c8 : Cond.methodLink RJx4a65c 1 yJxc12de_init_da8c8 ∈ wsJx4a65c_init_da8c8 ∧ Cond.instanceMethod yJxc12de_init_da8c8 ∈ wsJx4a65c_init_da8c8 ∧ Cond.initialized RJxc12de ∈ wsJx4a65c_init_da8c8 := by decide +kernel
set_option maxRecDepth 100000 in
set_option maxHeartbeats 4000000 in
theorem c_Jx4a65c_init_da8c8 (l : Launch) (D : va_G) (cI cO cL : ClassId) (A : Nat → Prop) (eE mi : Nat) (sa : Nat → Nat) (H0 : Heap) (b : Nat) (hA : A b) (hO : va_at D vwCl (b, .inr (0, [.int (zI 0), .null, .int (zI 0)])) H0) : zGM l yJx4a65c_init_da8c8 wsJx4a65c_init_da8c8 ({ frames := 3, cells := 0, slots := 0, locals := 75 }) D cI cO cL A eE mi sa [.ref b] H0 (fun rv H1 => rv = none ∧ va_at D vwCl (b, .inr (0, [.int (zI 0), .ref eE, .int (zI 0)])) H1 ∧ H1.size = H0.size ∧ ∀ q : Nat, q ≠ b → H1[q]? = H0[q]?) (fun q => q = b) := by
  refine Met.ofW (cc := cJx4a65c_init_da8c8) (maxL := 1) (ret := none) (by decide) rfl ?_
  intro p e s m args below meth c s₁ B hml hv
  obtain ⟨rfl, hH, hG⟩ := hv
  subst hH
  have hK := hG.k
  have hx := B.exec
  have hb := B.bytes
  have hr := B.returns
  have hts := atoms_spec (ws := wsJx4a65c_init_da8c8) B.pre
  have hown : s.vm.findClass RJx4a65c = some m.cls := findClass_of_methodNamed B.named
  have hlocks := B.notSynchronized
  have hin : meth.name = "<init>" := (name_of_methodNamed B.named B.method).1
  have hl := lv_entry ([.ref b]) (n := 1) (Nat.le_of_ble_eq_true rfl)
  rw [lg_entry_eq]
  generalize (lg_sl ([.ref b]) ++ List.replicate (1 - (lg_sl ([.ref b])).length) Slot.unset).toArray = ls at hl ⊢
  have hl : lv_has ls 1 [(0, .ref b)] := hl
  refine lv_aload_n hx hb dJx4a65c_init_da8c8_0 rfl (lv_at hl 0 rfl) ?_
  refine z_gI (As := []) (rest := []) ⟨hx, hb, hml, hown, hts⟩ (c_Jxc12de_init_da8c8 l D cI cO cL A eE mi sa s.heap b hO) (cwI 0 hts gJx4a65c_init_da8c8_Jxc12de_init_da8c8 rfl rfl rfl (hts _ lm_Jx4a65c_init_da8c8.2.2) (hts _ lm_Jx4a65c_init_da8c8.1) (hts _ lm_Jx4a65c_init_da8c8.2.1) rfl (by decide +kernel) ⟨(Nat.le_of_ble_eq_true rfl), (Nat.le_of_ble_eq_true rfl)⟩) hG va_S.rf rfl hl.1 rfl (Nat.le_of_ble_eq_true rfl) dJx4a65c_init_da8c8_1 ⟨(Nat.le_of_ble_eq_true rfl), (Nat.le_of_ble_eq_true rfl)⟩ (fun r H1 L hp hL => ?_)
  obtain ⟨e1, p2, p3, p4⟩ := hp
  rw [e1]
  have hS1 : va_S (fun q => q = b) s.heap H1 ([] ++ L) := ⟨by omega, fun q h1 h2 => p4 q h2, fun q hq => hL q (by simpa using hq)⟩
  refine lv_aload_n hx hb dJx4a65c_init_da8c8_4 rfl (lv_at hl 0 rfl) ?_
  refine va_gets hx hb hG.2.1 (z_Smono (fun q hq => by have hq : q = b := hq; rw [hq]; exact hA) hS1) hown (hts _ lk_Jx4a65c_init_da8c8_39) (fun x h => h) dJx4a65c_init_da8c8_5 ?_
  refine z_put (A := fun q => q = b) hx hb hts in_Jx4a65c_init_da8c8 tyJx4a65c tyJx4a65c_ok nmJx4a65c hown hK p2 rfl hS1 rfl 1 (by decide) lk_Jx4a65c_init_da8c8_9 rfl rfl rfl rfl (Nat.le_of_ble_eq_true rfl) dJx4a65c_init_da8c8_8 (fun H2 locs2 hO2 hz2 ho2 hS2 => ?_)
  exact W.vret hx hb hr (z_endP (P := fun rv H1 => rv = none ∧ va_at D vwCl (b, .inr (0, [.int (zI 0), .ref eE, .int (zI 0)])) H1 ∧ H1.size = s.heap.size ∧ ∀ q : Nat, q ≠ b → H1[q]? = s.heap[q]?) ⟨rfl, hO2, by omega, fun q h => (ho2 q h).trans (p4 q h)⟩) hS2.2.2 dJx4a65c_init_da8c8_11
