/-! the law's helpers: a call of the class, its answer, or its throw as a number -/
def xNcs : List (String × String) := [(xIA, xIS), (xIA, xIO), (xIS, xIA), (xIS, xIO), (xIO, xIA), (xIO, xIS)]
def GL (D : va_G) (cI cO cL : ClassId) (A : Nat → Prop) (eE mi : Nat) (sa : Nat → Nat) (U : State) : Prop := GK D cI cO cL A eE mi sa U ∧ ∀ q ∈ xNcs, va_Nc q.1 q.2 U
theorem GL.same {D : va_G} {cI cO cL : ClassId} {A : Nat → Prop} {eE mi : Nat} {sa : Nat → Nat} {u U : State} (hv : u.vm = U.vm) (hh : u.heap = U.heap) (h : GL D cI cO cL A eE mi sa u) : GL D cI cO cL A eE mi sa U := ⟨GK.same hv hh h.1, fun q hq => (h.2 q hq).moved (by rw [hv]; exact Vm.Alike.refl _)⟩
theorem GL.warm {D : va_G} {cI cO cL : ClassId} {A : Nat → Prop} {eE mi : Nat} {sa : Nat → Nat} {u U : State} (hW : u.WarmedH U.vm) (hz : u.heap.size ≤ U.heap.size) (hk : ∀ q : Nat, q < u.heap.size → ¬ A q → U.heap[q]? = u.heap[q]?) (h : GL D cI cO cL A eE mi sa u) : GL D cI cO cL A eE mi sa U := ⟨GK.warm hW hz hk h.1, fun q hq => (h.2 q hq).moved hW.alike⟩
/-- what a helper answers: by which throw -/
def zAw (th an e1 e2 e3 z : Int) : Prop := (th = 0 → z = an) ∧ (th = 1 → z = e1) ∧ (th = 2 → z = e2) ∧ (th = 3 → z = e3)
def zLP (D : va_G) (cO : ClassId) (A : Nat → Prop) (eE : Nat) (g : zG) (σ : zT) (th an e1 e2 e3 : Int) (st : zT) (r : Option Value) (H : Heap) : Prop := ∃ z, r = some (.int (zI z)) ∧ zAw th an e1 e2 e3 z ∧ ∃ g' : zG, g' 0 0 = g 0 0 ∧ RX D cO A eE g' (if th = 0 then st else σ) H
def zLM (l : Launch) (y : MethodName) (ws : List Cond) (rm : Room) (D : va_G) (cI cO cL : ClassId) (A : Nat → Prop) (eE mi : Nat) (sa : Nat → Nat) (av : List Value) (H0 : Heap) (P : Option Value → Heap → Prop) : Prop :=
  vx_Met l y ws rm (va_Pc av (fun U => U.heap = H0 ∧ GL D cI cO cL A eE mi sa U)) (fun _ s0 o1 t => (∃ r, o1 = .returned r ∧ P r t.heap) ∧ va_F A s0 t) (fun _ _ _ => False) rm.cells rm.slots A
theorem z_endL {A : Nat → Prop} {s : State} {H : Heap} {locs : List Loc} {P : Option Value → Heap → Prop} {v : Option Value} (h : P v H) (hS : va_S A s.heap H locs) : ∀ t : State, t.heap = H → s.WarmedH t.vm → (∃ r, Outcome.returned v = .returned r ∧ P r t.heap) ∧ va_F A s t := fun t ht _ => ⟨⟨v, rfl, by rw [ht]; exact h⟩, z_F hS ht⟩

theorem ct_L_tide_14 : Cond.classLink RL 14 "java/lang/IllegalArgumentException" ∈ wsL_tide := by decide +kernel
set_option maxRecDepth 100000 in
set_option maxHeartbeats 4000000 in
theorem c_L_tide (l : Launch) (hfl : l.stackTraces = false) (D : va_G) (cI cO cL : ClassId) (A : Nat → Prop) (eE mi : Nat) (sa : Nat → Nat) (g : zG) (σ : zT) (H0 : Heap) (hR : RX D cO A eE g σ H0) (x0 : Nat) (hx0 : g 0 0 = x0) (h : zAll σ) (d r : Int) (hA : (-2147483648 ≤ d ∧ d < 2147483648) ∧ (-2147483648 ≤ r ∧ r < 2147483648)) : zLM l yL_tide wsL_tide ({ frames := 8, cells := 2, slots := 12, locals := 126 }) D cI cO cL A eE mi sa [.ref x0, .int (zI d), .int (zI r)] H0 (zLP D cO A eE g σ (zth_tide d r) (0) (-7200) (0) (0) (zst_tide σ d r)) := by
  subst hx0
  refine vx_ofWH (cc := cL_tide) (maxL := 4) (ret := (some .int)) (hh := [(0, 6, 9, 14)]) (by decide) rfl ?_
  intro p e s m args below meth c s₁ B hml hv
  obtain ⟨rfl, hH, hG⟩ := hv
  subst hH
  have hK := hG.1.k
  have hx := B.exec
  have hb := B.bytes
  have hr := B.returns
  have hts := atoms_spec (ws := wsL_tide) B.pre
  have hown : s.vm.findClass RL = some m.cls := findClass_of_methodNamed B.named
  have hlocks := B.notSynchronized
  have htab := vx_table (x := yL_tide) B (hts _ List.mem_cons_self)
  have hl := lv_entry ([.ref (g 0 0), .int (zI d), .int (zI r)]) (n := 4) (Nat.le_of_ble_eq_true rfl)
  rw [lg_entry_eq]
  generalize (lg_sl ([.ref (g 0 0), .int (zI d), .int (zI r)]) ++ List.replicate (4 - (lg_sl ([.ref (g 0 0), .int (zI d), .int (zI r)])).length) Slot.unset).toArray = ls at hl ⊢
  have hl : lv_has ls 4 [(0, .ref (g 0 0)), (1, .int (zI d)), (2, .int (zI r))] := hl
  refine lv_aload_n hx hb dL_tide_0 rfl (lv_at hl 0 rfl) ?_
  refine lv_iload_n hx hb dL_tide_1 rfl (lv_at hl 1 rfl) ?_
  refine lv_iload_n hx hb dL_tide_2 rfl (lv_at hl 2 rfl) ?_
  refine z_xmV (As := [.int (zI d), .int (zI r)]) (rest := []) ⟨hx, hb, hml, hown, hts⟩ (c_X4_tide l hfl D cI cO cL A eE mi sa g σ s.heap hR d r h.1 hA) (cwV 2 hts gL_tide_X4_tide rfl rfl rfl (by decide +kernel) ⟨(Nat.le_of_ble_eq_true rfl), (Nat.le_of_ble_eq_true rfl)⟩) hG.1 va_S.rf (z_recv hK hR.x rfl) rfl hl.1 rfl (Nat.le_of_ble_eq_true rfl) dL_tide_3 ⟨(Nat.le_of_ble_eq_true rfl), (Nat.le_of_ble_eq_true rfl)⟩ (fun E ce q9 H1 locs1 hpx hRx hzx hkx hSx hcx hvx hclx => ?_) (fun rv σ' g' HA locsA hpA hRA hzA hkA hSA => ?_)
  · obtain ⟨ht, rfl⟩ := hpx
    refine vx_catch (name := "java/lang/IllegalArgumentException") hown [] ⟨0, 6, 9, 14⟩ [] (by rw [htab]; rfl) (fun z hz => nomatch hz) (by decide) (by decide) (hts _ ct_L_tide_14) (va_Nw.use rfl (hG.1.2.2.2.2.2.2.2.2.2.2.1 (xIA, xIA) (by decide))) hcx hvx hclx ?_
    refine lv_astore_n (lv' := [(3, .ref q9), (0, .ref (g 0 0)), (1, .int (zI d)), (2, .int (zI r))]) hx hb dL_tide_9 rfl hl (by decide) rfl (fun ls hl => ?_)
    refine z_sipush hx hb dL_tide_10 (by decide +kernel) ?_
    exact vx_ret (W.iret hx hb hr (z_endL (P := zLP D cO A eE g σ (zth_tide d r) (0) (-7200) (0) (0) (zst_tide σ d r)) (v := some (.int (zI (-7200)))) ⟨-7200, rfl, ⟨fun z => by omega, fun z => by omega, fun z => by omega, fun z => by omega⟩, g, rfl, by rw [if_neg (by omega)]; exact hRx⟩ hSx) hSx.2.2 dL_tide_13)
  obtain ⟨⟨e1, e2, e3⟩, e4⟩ := hpA
  rw [e2]
  refine lv_goto (tgt := 14) hx hb dL_tide_6 (by decide) ?_
  refine z_iconst hx hb dL_tide_14 ?_
  exact vx_ret (W.iret hx hb hr (z_endL (P := zLP D cO A eE g σ (zth_tide d r) (0) (-7200) (0) (0) (zst_tide σ d r)) (v := some (.int (zI (0)))) ⟨0, rfl, ⟨fun z => rfl, fun z => by omega, fun z => by omega, fun z => by omega⟩, g', e4, by rw [if_pos e1, ← e3]; exact hRA⟩ hSA) hSA.2.2 dL_tide_15)

theorem ct_L_tugs_14 : Cond.classLink RL 14 "java/lang/IllegalArgumentException" ∈ wsL_tugs := by decide +kernel
set_option maxRecDepth 100000 in
set_option maxHeartbeats 4000000 in
theorem c_L_tugs (l : Launch) (hfl : l.stackTraces = false) (D : va_G) (cI cO cL : ClassId) (A : Nat → Prop) (eE mi : Nat) (sa : Nat → Nat) (g : zG) (σ : zT) (H0 : Heap) (hR : RX D cO A eE g σ H0) (x0 : Nat) (hx0 : g 0 0 = x0) (h : zAll σ) (n : Int) (hA : (-2147483648 ≤ n ∧ n < 2147483648)) : zLM l yL_tugs wsL_tugs ({ frames := 8, cells := 1, slots := 6, locals := 126 }) D cI cO cL A eE mi sa [.ref x0, .int (zI n)] H0 (zLP D cO A eE g σ (zth_tugs n) (zan_tugs σ) (-7200) (0) (0) (zst_tugs σ n)) := by
  subst hx0
  refine vx_ofWH (cc := cL_tugs) (maxL := 4) (ret := (some .int)) (hh := [(0, 6, 9, 14)]) (by decide) rfl ?_
  intro p e s m args below meth c s₁ B hml hv
  obtain ⟨rfl, hH, hG⟩ := hv
  subst hH
  have hK := hG.1.k
  have hx := B.exec
  have hb := B.bytes
  have hr := B.returns
  have hts := atoms_spec (ws := wsL_tugs) B.pre
  have hown : s.vm.findClass RL = some m.cls := findClass_of_methodNamed B.named
  have hlocks := B.notSynchronized
  have htab := vx_table (x := yL_tugs) B (hts _ List.mem_cons_self)
  have hl := lv_entry ([.ref (g 0 0), .int (zI n)]) (n := 4) (Nat.le_of_ble_eq_true rfl)
  rw [lg_entry_eq]
  generalize (lg_sl ([.ref (g 0 0), .int (zI n)]) ++ List.replicate (4 - (lg_sl ([.ref (g 0 0), .int (zI n)])).length) Slot.unset).toArray = ls at hl ⊢
  have hl : lv_has ls 4 [(0, .ref (g 0 0)), (1, .int (zI n))] := hl
  refine lv_aload_n hx hb dL_tugs_0 rfl (lv_at hl 0 rfl) ?_
  refine lv_iload_n hx hb dL_tugs_1 rfl (lv_at hl 1 rfl) ?_
  refine z_xmV (As := [.int (zI n)]) (rest := []) ⟨hx, hb, hml, hown, hts⟩ (c_X4_tugs l hfl D cI cO cL A eE mi sa g σ s.heap hR n h.1 hA) (cwV 1 hts gL_tugs_X4_tugs rfl rfl rfl (by decide +kernel) ⟨(Nat.le_of_ble_eq_true rfl), (Nat.le_of_ble_eq_true rfl)⟩) hG.1 va_S.rf (z_recv hK hR.x rfl) rfl hl.1 rfl (Nat.le_of_ble_eq_true rfl) dL_tugs_2 ⟨(Nat.le_of_ble_eq_true rfl), (Nat.le_of_ble_eq_true rfl)⟩ (fun E ce q9 H1 locs1 hpx hRx hzx hkx hSx hcx hvx hclx => ?_) (fun rv σ' g' HA locsA hpA hRA hzA hkA hSA => ?_)
  · obtain ⟨ht, rfl⟩ := hpx
    refine vx_catch (name := "java/lang/IllegalArgumentException") hown [] ⟨0, 6, 9, 14⟩ [] (by rw [htab]; rfl) (fun z hz => nomatch hz) (by decide) (by decide) (hts _ ct_L_tugs_14) (va_Nw.use rfl (hG.1.2.2.2.2.2.2.2.2.2.2.1 (xIA, xIA) (by decide))) hcx hvx hclx ?_
    refine lv_astore_n (lv' := [(3, .ref q9), (0, .ref (g 0 0)), (1, .int (zI n))]) hx hb dL_tugs_9 rfl hl (by decide) rfl (fun ls hl => ?_)
    refine z_sipush hx hb dL_tugs_10 (by decide +kernel) ?_
    exact vx_ret (W.iret hx hb hr (z_endL (P := zLP D cO A eE g σ (zth_tugs n) (zan_tugs σ) (-7200) (0) (0) (zst_tugs σ n)) (v := some (.int (zI (-7200)))) ⟨-7200, rfl, ⟨fun z => by omega, fun z => by omega, fun z => by omega, fun z => by omega⟩, g, rfl, by rw [if_neg (by omega)]; exact hRx⟩ hSx) hSx.2.2 dL_tugs_13)
  obtain ⟨⟨e1, e2, e3⟩, e4⟩ := hpA
  rw [e2]
  refine lv_istore_n (lv' := [(2, .int (zI (zan_tugs σ))), (0, .ref (g 0 0)), (1, .int (zI n))]) hx hb dL_tugs_5 rfl hl (by decide) rfl (fun ls hl => ?_)
  refine lv_goto (tgt := 14) hx hb dL_tugs_6 (by decide) ?_
  refine lv_iload_n hx hb dL_tugs_14 rfl (lv_at hl 0 rfl) ?_
  exact vx_ret (W.iret hx hb hr (z_endL (P := zLP D cO A eE g σ (zth_tugs n) (zan_tugs σ) (-7200) (0) (0) (zst_tugs σ n)) (v := some (.int (zI (zan_tugs σ)))) ⟨zan_tugs σ, rfl, ⟨fun z => rfl, fun z => by omega, fun z => by omega, fun z => by omega⟩, g', e4, by rw [if_pos e1, ← e3]; exact hRA⟩ hSA) hSA.2.2 dL_tugs_15)

theorem ct_L_ship_14 : Cond.classLink RL 14 "java/lang/IllegalArgumentException" ∈ wsL_ship := by decide +kernel
theorem ct_L_ship_24 : Cond.classLink RL 24 "java/lang/IllegalStateException" ∈ wsL_ship := by decide +kernel
set_option maxRecDepth 100000 in
set_option maxHeartbeats 4000000 in
theorem c_L_ship (l : Launch) (hfl : l.stackTraces = false) (D : va_G) (cI cO cL : ClassId) (A : Nat → Prop) (eE mi : Nat) (sa : Nat → Nat) (g : zG) (σ : zT) (H0 : Heap) (hR : RX D cO A eE g σ H0) (x0 : Nat) (hx0 : g 0 0 = x0) (h : zAll σ) (d t n gg : Int) (hA : (-2147483648 ≤ d ∧ d < 2147483648) ∧ (-2147483648 ≤ t ∧ t < 2147483648) ∧ (-2147483648 ≤ n ∧ n < 2147483648) ∧ (-2147483648 ≤ gg ∧ gg < 2147483648)) : zLM l yL_ship wsL_ship ({ frames := 8, cells := 7, slots := 96, locals := 246 }) D cI cO cL A eE mi sa [.ref x0, .int (zI d), .int (zI t), .int (zI n), .int (zI gg)] H0 (zLP D cO A eE g σ (zth_ship σ d t n gg) (zan_ship σ) (-7200) (-7300) (0) (zst_ship σ d t n gg)) := by
  subst hx0
  refine vx_ofWH (cc := cL_ship) (maxL := 7) (ret := (some .int)) (hh := [(0, 11, 14, 14), (0, 11, 20, 24)]) (by decide) rfl ?_
  intro p e s m args below meth c s₁ B hml hv
  obtain ⟨rfl, hH, hG⟩ := hv
  subst hH
  have hK := hG.1.k
  have hx := B.exec
  have hb := B.bytes
  have hr := B.returns
  have hts := atoms_spec (ws := wsL_ship) B.pre
  have hown : s.vm.findClass RL = some m.cls := findClass_of_methodNamed B.named
  have hlocks := B.notSynchronized
  have htab := vx_table (x := yL_ship) B (hts _ List.mem_cons_self)
  have hl := lv_entry ([.ref (g 0 0), .int (zI d), .int (zI t), .int (zI n), .int (zI gg)]) (n := 7) (Nat.le_of_ble_eq_true rfl)
  rw [lg_entry_eq]
  generalize (lg_sl ([.ref (g 0 0), .int (zI d), .int (zI t), .int (zI n), .int (zI gg)]) ++ List.replicate (7 - (lg_sl ([.ref (g 0 0), .int (zI d), .int (zI t), .int (zI n), .int (zI gg)])).length) Slot.unset).toArray = ls at hl ⊢
  have hl : lv_has ls 7 [(0, .ref (g 0 0)), (1, .int (zI d)), (2, .int (zI t)), (3, .int (zI n)), (4, .int (zI gg))] := hl
  refine lv_aload_n hx hb dL_ship_0 rfl (lv_at hl 0 rfl) ?_
  refine lv_iload_n hx hb dL_ship_1 rfl (lv_at hl 1 rfl) ?_
  refine lv_iload_n hx hb dL_ship_2 rfl (lv_at hl 2 rfl) ?_
  refine lv_iload_n hx hb dL_ship_3 rfl (lv_at hl 3 rfl) ?_
  refine lv_iload hx hb dL_ship_4 (lv_at hl 4 rfl) ?_
  refine z_xmV (As := [.int (zI d), .int (zI t), .int (zI n), .int (zI gg)]) (rest := []) ⟨hx, hb, hml, hown, hts⟩ (c_X4_ship l hfl D cI cO cL A eE mi sa g σ s.heap hR d t n gg h.1 (h.2.2.2.1 _ (Int.le_refl _)) hA) (cwV 4 hts gL_ship_X4_ship rfl rfl rfl (by decide +kernel) ⟨(Nat.le_of_ble_eq_true rfl), (Nat.le_of_ble_eq_true rfl)⟩) hG.1 va_S.rf (z_recv hK hR.x rfl) rfl hl.1 rfl (Nat.le_of_ble_eq_true rfl) dL_ship_6 ⟨(Nat.le_of_ble_eq_true rfl), (Nat.le_of_ble_eq_true rfl)⟩ (fun E ce q9 H1 locs1 hpx hRx hzx hkx hSx hcx hvx hclx => ?_) (fun rv σ' g' HA locsA hpA hRA hzA hkA hSA => ?_)
  · rcases hpx with ⟨ht, rfl⟩ | ⟨ht, rfl⟩
    · refine vx_catch (name := "java/lang/IllegalArgumentException") hown [] ⟨0, 11, 14, 14⟩ [⟨0, 11, 20, 24⟩] (by rw [htab]; rfl) (fun z hz => nomatch hz) (by decide) (by decide) (hts _ ct_L_ship_14) (va_Nw.use rfl (hG.1.2.2.2.2.2.2.2.2.2.2.1 (xIA, xIA) (by decide))) hcx hvx hclx ?_
      refine lv_astore (lv' := [(6, .ref q9), (0, .ref (g 0 0)), (1, .int (zI d)), (2, .int (zI t)), (3, .int (zI n)), (4, .int (zI gg))]) hx hb dL_ship_14 hl (by decide) rfl (fun ls hl => ?_)
      refine z_sipush hx hb dL_ship_16 (by decide +kernel) ?_
      exact vx_ret (W.iret hx hb hr (z_endL (P := zLP D cO A eE g σ (zth_ship σ d t n gg) (zan_ship σ) (-7200) (-7300) (0) (zst_ship σ d t n gg)) (v := some (.int (zI (-7200)))) ⟨-7200, rfl, ⟨fun z => by omega, fun z => by omega, fun z => by omega, fun z => by omega⟩, g, rfl, by rw [if_neg (by omega)]; exact hRx⟩ hSx) hSx.2.2 dL_ship_19)
    · refine vx_catch (name := "java/lang/IllegalStateException") hown [⟨0, 11, 14, 14⟩] ⟨0, 11, 20, 24⟩ [] (by rw [htab]; rfl) (fun z hz => by
          simp only [List.mem_cons, List.not_mem_nil, or_false] at hz
          subst hz; exact Or.inr ⟨by decide, "java/lang/IllegalArgumentException", hts _ ct_L_ship_14, hG.2 (xIS, xIA) (by decide)⟩) (by decide) (by decide) (hts _ ct_L_ship_24) (va_Nw.use rfl (hG.1.2.2.2.2.2.2.2.2.2.2.1 (xIS, xIS) (by decide))) hcx hvx hclx ?_
      refine lv_astore (lv' := [(6, .ref q9), (0, .ref (g 0 0)), (1, .int (zI d)), (2, .int (zI t)), (3, .int (zI n)), (4, .int (zI gg))]) hx hb dL_ship_20 hl (by decide) rfl (fun ls hl => ?_)
      refine z_sipush hx hb dL_ship_22 (by decide +kernel) ?_
      exact vx_ret (W.iret hx hb hr (z_endL (P := zLP D cO A eE g σ (zth_ship σ d t n gg) (zan_ship σ) (-7200) (-7300) (0) (zst_ship σ d t n gg)) (v := some (.int (zI (-7300)))) ⟨-7300, rfl, ⟨fun z => by omega, fun z => by omega, fun z => by omega, fun z => by omega⟩, g, rfl, by rw [if_neg (by omega)]; exact hRx⟩ hSx) hSx.2.2 dL_ship_25)
  obtain ⟨⟨e1, e2, e3⟩, e4⟩ := hpA
  rw [e2]
  refine lv_istore (lv' := [(5, .int (zI (zan_ship σ))), (0, .ref (g 0 0)), (1, .int (zI d)), (2, .int (zI t)), (3, .int (zI n)), (4, .int (zI gg))]) hx hb dL_ship_9 hl (by decide) rfl (fun ls hl => ?_)
  refine lv_goto (tgt := 26) hx hb dL_ship_11 (by decide) ?_
  refine lv_iload hx hb dL_ship_26 (lv_at hl 0 rfl) ?_
  exact vx_ret (W.iret hx hb hr (z_endL (P := zLP D cO A eE g σ (zth_ship σ d t n gg) (zan_ship σ) (-7200) (-7300) (0) (zst_ship σ d t n gg)) (v := some (.int (zI (zan_ship σ)))) ⟨zan_ship σ, rfl, ⟨fun z => rfl, fun z => by omega, fun z => by omega, fun z => by omega⟩, g', e4, by rw [if_pos e1, ← e3]; exact hRA⟩ hSA) hSA.2.2 dL_ship_28)

theorem ct_L_pilot_14 : Cond.classLink RL 14 "java/lang/IllegalArgumentException" ∈ wsL_pilot := by decide +kernel
theorem ct_L_pilot_24 : Cond.classLink RL 24 "java/lang/IllegalStateException" ∈ wsL_pilot := by decide +kernel
set_option maxRecDepth 100000 in
set_option maxHeartbeats 4000000 in
theorem c_L_pilot (l : Launch) (hfl : l.stackTraces = false) (D : va_G) (cI cO cL : ClassId) (A : Nat → Prop) (eE mi : Nat) (sa : Nat → Nat) (g : zG) (σ : zT) (H0 : Heap) (hR : RX D cO A eE g σ H0) (x0 : Nat) (hx0 : g 0 0 = x0) (h : zAll σ) (a b : Int) (hA : (-2147483648 ≤ a ∧ a < 2147483648) ∧ (-2147483648 ≤ b ∧ b < 2147483648)) : zLM l yL_pilot wsL_pilot ({ frames := 8, cells := 5, slots := 83, locals := 244 }) D cI cO cL A eE mi sa [.ref x0, .int (zI a), .int (zI b)] H0 (zLP D cO A eE g σ (zth_pilot σ a b) (zan_pilot σ) (-7200) (-7300) (0) (zst_pilot σ a b)) := by
  subst hx0
  refine vx_ofWH (cc := cL_pilot) (maxL := 5) (ret := (some .int)) (hh := [(0, 7, 10, 14), (0, 7, 16, 24)]) (by decide) rfl ?_
  intro p e s m args below meth c s₁ B hml hv
  obtain ⟨rfl, hH, hG⟩ := hv
  subst hH
  have hK := hG.1.k
  have hx := B.exec
  have hb := B.bytes
  have hr := B.returns
  have hts := atoms_spec (ws := wsL_pilot) B.pre
  have hown : s.vm.findClass RL = some m.cls := findClass_of_methodNamed B.named
  have hlocks := B.notSynchronized
  have htab := vx_table (x := yL_pilot) B (hts _ List.mem_cons_self)
  have hl := lv_entry ([.ref (g 0 0), .int (zI a), .int (zI b)]) (n := 5) (Nat.le_of_ble_eq_true rfl)
  rw [lg_entry_eq]
  generalize (lg_sl ([.ref (g 0 0), .int (zI a), .int (zI b)]) ++ List.replicate (5 - (lg_sl ([.ref (g 0 0), .int (zI a), .int (zI b)])).length) Slot.unset).toArray = ls at hl ⊢
  have hl : lv_has ls 5 [(0, .ref (g 0 0)), (1, .int (zI a)), (2, .int (zI b))] := hl
  refine lv_aload_n hx hb dL_pilot_0 rfl (lv_at hl 0 rfl) ?_
  refine lv_iload_n hx hb dL_pilot_1 rfl (lv_at hl 1 rfl) ?_
  refine lv_iload_n hx hb dL_pilot_2 rfl (lv_at hl 2 rfl) ?_
  refine z_xmV (As := [.int (zI a), .int (zI b)]) (rest := []) ⟨hx, hb, hml, hown, hts⟩ (c_X4_pilot l hfl D cI cO cL A eE mi sa g σ s.heap hR a b h.1 (h.2.2.2.2.1 _ (Int.le_refl _)) hA) (cwV 2 hts gL_pilot_X4_pilot rfl rfl rfl (by decide +kernel) ⟨(Nat.le_of_ble_eq_true rfl), (Nat.le_of_ble_eq_true rfl)⟩) hG.1 va_S.rf (z_recv hK hR.x rfl) rfl hl.1 rfl (Nat.le_of_ble_eq_true rfl) dL_pilot_3 ⟨(Nat.le_of_ble_eq_true rfl), (Nat.le_of_ble_eq_true rfl)⟩ (fun E ce q9 H1 locs1 hpx hRx hzx hkx hSx hcx hvx hclx => ?_) (fun rv σ' g' HA locsA hpA hRA hzA hkA hSA => ?_)
  · rcases hpx with ⟨ht, rfl⟩ | ⟨ht, rfl⟩
    · refine vx_catch (name := "java/lang/IllegalArgumentException") hown [] ⟨0, 7, 10, 14⟩ [⟨0, 7, 16, 24⟩] (by rw [htab]; rfl) (fun z hz => nomatch hz) (by decide) (by decide) (hts _ ct_L_pilot_14) (va_Nw.use rfl (hG.1.2.2.2.2.2.2.2.2.2.2.1 (xIA, xIA) (by decide))) hcx hvx hclx ?_
      refine lv_astore (lv' := [(4, .ref q9), (0, .ref (g 0 0)), (1, .int (zI a)), (2, .int (zI b))]) hx hb dL_pilot_10 hl (by decide) rfl (fun ls hl => ?_)
      refine z_sipush hx hb dL_pilot_12 (by decide +kernel) ?_
      exact vx_ret (W.iret hx hb hr (z_endL (P := zLP D cO A eE g σ (zth_pilot σ a b) (zan_pilot σ) (-7200) (-7300) (0) (zst_pilot σ a b)) (v := some (.int (zI (-7200)))) ⟨-7200, rfl, ⟨fun z => by omega, fun z => by omega, fun z => by omega, fun z => by omega⟩, g, rfl, by rw [if_neg (by omega)]; exact hRx⟩ hSx) hSx.2.2 dL_pilot_15)
    · refine vx_catch (name := "java/lang/IllegalStateException") hown [⟨0, 7, 10, 14⟩] ⟨0, 7, 16, 24⟩ [] (by rw [htab]; rfl) (fun z hz => by
          simp only [List.mem_cons, List.not_mem_nil, or_false] at hz
          subst hz; exact Or.inr ⟨by decide, "java/lang/IllegalArgumentException", hts _ ct_L_pilot_14, hG.2 (xIS, xIA) (by decide)⟩) (by decide) (by decide) (hts _ ct_L_pilot_24) (va_Nw.use rfl (hG.1.2.2.2.2.2.2.2.2.2.2.1 (xIS, xIS) (by decide))) hcx hvx hclx ?_
      refine lv_astore (lv' := [(4, .ref q9), (0, .ref (g 0 0)), (1, .int (zI a)), (2, .int (zI b))]) hx hb dL_pilot_16 hl (by decide) rfl (fun ls hl => ?_)
      refine z_sipush hx hb dL_pilot_18 (by decide +kernel) ?_
      exact vx_ret (W.iret hx hb hr (z_endL (P := zLP D cO A eE g σ (zth_pilot σ a b) (zan_pilot σ) (-7200) (-7300) (0) (zst_pilot σ a b)) (v := some (.int (zI (-7300)))) ⟨-7300, rfl, ⟨fun z => by omega, fun z => by omega, fun z => by omega, fun z => by omega⟩, g, rfl, by rw [if_neg (by omega)]; exact hRx⟩ hSx) hSx.2.2 dL_pilot_21)
  obtain ⟨⟨e1, e2, e3⟩, e4⟩ := hpA
  rw [e2]
  refine lv_istore_n (lv' := [(3, .int (zI (zan_pilot σ))), (0, .ref (g 0 0)), (1, .int (zI a)), (2, .int (zI b))]) hx hb dL_pilot_6 rfl hl (by decide) rfl (fun ls hl => ?_)
  refine lv_goto (tgt := 22) hx hb dL_pilot_7 (by decide) ?_
  refine lv_iload_n hx hb dL_pilot_22 rfl (lv_at hl 0 rfl) ?_
  exact vx_ret (W.iret hx hb hr (z_endL (P := zLP D cO A eE g σ (zth_pilot σ a b) (zan_pilot σ) (-7200) (-7300) (0) (zst_pilot σ a b)) (v := some (.int (zI (zan_pilot σ)))) ⟨zan_pilot σ, rfl, ⟨fun z => rfl, fun z => by omega, fun z => by omega, fun z => by omega⟩, g', e4, by rw [if_pos e1, ← e3]; exact hRA⟩ hSA) hSA.2.2 dL_pilot_23)

theorem ct_L_call_33 : Cond.classLink RL 33 "java/lang/IndexOutOfBoundsException" ∈ wsL_call := by decide +kernel
theorem ct_L_call_14 : Cond.classLink RL 14 "java/lang/IllegalArgumentException" ∈ wsL_call := by decide +kernel
theorem ct_L_call_24 : Cond.classLink RL 24 "java/lang/IllegalStateException" ∈ wsL_call := by decide +kernel
set_option maxRecDepth 100000 in
set_option maxHeartbeats 4000000 in
theorem c_L_call (l : Launch) (hfl : l.stackTraces = false) (D : va_G) (cI cO cL : ClassId) (A : Nat → Prop) (eE mi : Nat) (sa : Nat → Nat) (g : zG) (σ : zT) (H0 : Heap) (hR : RX D cO A eE g σ H0) (x0 : Nat) (hx0 : g 0 0 = x0) (h : zAll σ) (k w : Int) (hA : (-2147483648 ≤ k ∧ k < 2147483648) ∧ (-2147483648 ≤ w ∧ w < 2147483648)) : zLM l yL_call wsL_call ({ frames := 8, cells := 5, slots := 85, locals := 245 }) D cI cO cL A eE mi sa [.ref x0, .int (zI k), .int (zI w)] H0 (zLP D cO A eE g σ (zth_call σ k w) (zan_call σ) (-7100) (-7200) (-7300) (zst_call σ k w)) := by
  subst hx0
  refine vx_ofWH (cc := cL_call) (maxL := 5) (ret := (some .int)) (hh := [(0, 7, 10, 33), (0, 7, 16, 14), (0, 7, 22, 24)]) (by decide) rfl ?_
  intro p e s m args below meth c s₁ B hml hv
  obtain ⟨rfl, hH, hG⟩ := hv
  subst hH
  have hK := hG.1.k
  have hx := B.exec
  have hb := B.bytes
  have hr := B.returns
  have hts := atoms_spec (ws := wsL_call) B.pre
  have hown : s.vm.findClass RL = some m.cls := findClass_of_methodNamed B.named
  have hlocks := B.notSynchronized
  have htab := vx_table (x := yL_call) B (hts _ List.mem_cons_self)
  have hl := lv_entry ([.ref (g 0 0), .int (zI k), .int (zI w)]) (n := 5) (Nat.le_of_ble_eq_true rfl)
  rw [lg_entry_eq]
  generalize (lg_sl ([.ref (g 0 0), .int (zI k), .int (zI w)]) ++ List.replicate (5 - (lg_sl ([.ref (g 0 0), .int (zI k), .int (zI w)])).length) Slot.unset).toArray = ls at hl ⊢
  have hl : lv_has ls 5 [(0, .ref (g 0 0)), (1, .int (zI k)), (2, .int (zI w))] := hl
  refine lv_aload_n hx hb dL_call_0 rfl (lv_at hl 0 rfl) ?_
  refine lv_iload_n hx hb dL_call_1 rfl (lv_at hl 1 rfl) ?_
  refine lv_iload_n hx hb dL_call_2 rfl (lv_at hl 2 rfl) ?_
  refine z_xmV (As := [.int (zI k), .int (zI w)]) (rest := []) ⟨hx, hb, hml, hown, hts⟩ (c_X4_call l hfl D cI cO cL A eE mi sa g σ s.heap hR k w h.1 (h.2.2.2.2.2 _ (Int.le_refl _)) hA) (cwV 2 hts gL_call_X4_call rfl rfl rfl (by decide +kernel) ⟨(Nat.le_of_ble_eq_true rfl), (Nat.le_of_ble_eq_true rfl)⟩) hG.1 va_S.rf (z_recv hK hR.x rfl) rfl hl.1 rfl (Nat.le_of_ble_eq_true rfl) dL_call_3 ⟨(Nat.le_of_ble_eq_true rfl), (Nat.le_of_ble_eq_true rfl)⟩ (fun E ce q9 H1 locs1 hpx hRx hzx hkx hSx hcx hvx hclx => ?_) (fun rv σ' g' HA locsA hpA hRA hzA hkA hSA => ?_)
  · rcases hpx with ⟨ht, rfl⟩ | ⟨ht, rfl⟩ | ⟨ht, rfl⟩
    · refine vx_catch (name := "java/lang/IndexOutOfBoundsException") hown [] ⟨0, 7, 10, 33⟩ [⟨0, 7, 16, 14⟩, ⟨0, 7, 22, 24⟩] (by rw [htab]; rfl) (fun z hz => nomatch hz) (by decide) (by decide) (hts _ ct_L_call_33) (va_Nw.use rfl (hG.1.2.2.2.2.2.2.2.2.2.2.1 (xIO, xIO) (by decide))) hcx hvx hclx ?_
      refine lv_astore (lv' := [(4, .ref q9), (0, .ref (g 0 0)), (1, .int (zI k)), (2, .int (zI w))]) hx hb dL_call_10 hl (by decide) rfl (fun ls hl => ?_)
      refine z_sipush hx hb dL_call_12 (by decide +kernel) ?_
      exact vx_ret (W.iret hx hb hr (z_endL (P := zLP D cO A eE g σ (zth_call σ k w) (zan_call σ) (-7100) (-7200) (-7300) (zst_call σ k w)) (v := some (.int (zI (-7100)))) ⟨-7100, rfl, ⟨fun z => by omega, fun z => by omega, fun z => by omega, fun z => by omega⟩, g, rfl, by rw [if_neg (by omega)]; exact hRx⟩ hSx) hSx.2.2 dL_call_15)
    · refine vx_catch (name := "java/lang/IllegalArgumentException") hown [⟨0, 7, 10, 33⟩] ⟨0, 7, 16, 14⟩ [⟨0, 7, 22, 24⟩] (by rw [htab]; rfl) (fun z hz => by
          simp only [List.mem_cons, List.not_mem_nil, or_false] at hz
          subst hz; exact Or.inr ⟨by decide, "java/lang/IndexOutOfBoundsException", hts _ ct_L_call_33, hG.2 (xIA, xIO) (by decide)⟩) (by decide) (by decide) (hts _ ct_L_call_14) (va_Nw.use rfl (hG.1.2.2.2.2.2.2.2.2.2.2.1 (xIA, xIA) (by decide))) hcx hvx hclx ?_
      refine lv_astore (lv' := [(4, .ref q9), (0, .ref (g 0 0)), (1, .int (zI k)), (2, .int (zI w))]) hx hb dL_call_16 hl (by decide) rfl (fun ls hl => ?_)
      refine z_sipush hx hb dL_call_18 (by decide +kernel) ?_
      exact vx_ret (W.iret hx hb hr (z_endL (P := zLP D cO A eE g σ (zth_call σ k w) (zan_call σ) (-7100) (-7200) (-7300) (zst_call σ k w)) (v := some (.int (zI (-7200)))) ⟨-7200, rfl, ⟨fun z => by omega, fun z => by omega, fun z => by omega, fun z => by omega⟩, g, rfl, by rw [if_neg (by omega)]; exact hRx⟩ hSx) hSx.2.2 dL_call_21)
    · refine vx_catch (name := "java/lang/IllegalStateException") hown [⟨0, 7, 10, 33⟩, ⟨0, 7, 16, 14⟩] ⟨0, 7, 22, 24⟩ [] (by rw [htab]; rfl) (fun z hz => by
          simp only [List.mem_cons, List.not_mem_nil, or_false] at hz
          rcases hz with rfl | rfl
          · exact Or.inr ⟨by decide, "java/lang/IndexOutOfBoundsException", hts _ ct_L_call_33, hG.2 (xIS, xIO) (by decide)⟩
          · exact Or.inr ⟨by decide, "java/lang/IllegalArgumentException", hts _ ct_L_call_14, hG.2 (xIS, xIA) (by decide)⟩) (by decide) (by decide) (hts _ ct_L_call_24) (va_Nw.use rfl (hG.1.2.2.2.2.2.2.2.2.2.2.1 (xIS, xIS) (by decide))) hcx hvx hclx ?_
      refine lv_astore (lv' := [(4, .ref q9), (0, .ref (g 0 0)), (1, .int (zI k)), (2, .int (zI w))]) hx hb dL_call_22 hl (by decide) rfl (fun ls hl => ?_)
      refine z_sipush hx hb dL_call_24 (by decide +kernel) ?_
      exact vx_ret (W.iret hx hb hr (z_endL (P := zLP D cO A eE g σ (zth_call σ k w) (zan_call σ) (-7100) (-7200) (-7300) (zst_call σ k w)) (v := some (.int (zI (-7300)))) ⟨-7300, rfl, ⟨fun z => by omega, fun z => by omega, fun z => by omega, fun z => by omega⟩, g, rfl, by rw [if_neg (by omega)]; exact hRx⟩ hSx) hSx.2.2 dL_call_27)
  obtain ⟨⟨e1, e2, e3⟩, e4⟩ := hpA
  rw [e2]
  refine lv_istore_n (lv' := [(3, .int (zI (zan_call σ))), (0, .ref (g 0 0)), (1, .int (zI k)), (2, .int (zI w))]) hx hb dL_call_6 rfl hl (by decide) rfl (fun ls hl => ?_)
  refine lv_goto (tgt := 28) hx hb dL_call_7 (by decide) ?_
  refine lv_iload_n hx hb dL_call_28 rfl (lv_at hl 0 rfl) ?_
  exact vx_ret (W.iret hx hb hr (z_endL (P := zLP D cO A eE g σ (zth_call σ k w) (zan_call σ) (-7100) (-7200) (-7300) (zst_call σ k w)) (v := some (.int (zI (zan_call σ)))) ⟨zan_call σ, rfl, ⟨fun z => rfl, fun z => by omega, fun z => by omega, fun z => by omega⟩, g', e4, by rw [if_pos e1, ← e3]; exact hRA⟩ hSA) hSA.2.2 dL_call_29)

theorem ct_L_join_33 : Cond.classLink RL 33 "java/lang/IndexOutOfBoundsException" ∈ wsL_join := by decide +kernel
theorem ct_L_join_24 : Cond.classLink RL 24 "java/lang/IllegalStateException" ∈ wsL_join := by decide +kernel
set_option maxRecDepth 100000 in
set_option maxHeartbeats 4000000 in
theorem c_L_join (l : Launch) (hfl : l.stackTraces = false) (D : va_G) (cI cO cL : ClassId) (A : Nat → Prop) (eE mi : Nat) (sa : Nat → Nat) (g : zG) (σ : zT) (H0 : Heap) (hR : RX D cO A eE g σ H0) (x0 : Nat) (hx0 : g 0 0 = x0) (h : zAll σ) (k w q : Int) (hA : (-2147483648 ≤ k ∧ k < 2147483648) ∧ (-2147483648 ≤ w ∧ w < 2147483648) ∧ (-2147483648 ≤ q ∧ q < 2147483648)) : zLM l yL_join wsL_join ({ frames := 8, cells := 4, slots := 24, locals := 186 }) D cI cO cL A eE mi sa [.ref x0, .int (zI k), .int (zI w), .int (zI q)] H0 (zLP D cO A eE g σ (zth_join σ k w q) (zan_join σ k w q) (-7100) (-7300) (0) (zst_join σ k w q)) := by
  subst hx0
  refine vx_ofWH (cc := cL_join) (maxL := 6) (ret := (some .int)) (hh := [(0, 9, 12, 33), (0, 9, 18, 24)]) (by decide) rfl ?_
  intro p e s m args below meth c s₁ B hml hv
  obtain ⟨rfl, hH, hG⟩ := hv
  subst hH
  have hK := hG.1.k
  have hx := B.exec
  have hb := B.bytes
  have hr := B.returns
  have hts := atoms_spec (ws := wsL_join) B.pre
  have hown : s.vm.findClass RL = some m.cls := findClass_of_methodNamed B.named
  have hlocks := B.notSynchronized
  have htab := vx_table (x := yL_join) B (hts _ List.mem_cons_self)
  have hl := lv_entry ([.ref (g 0 0), .int (zI k), .int (zI w), .int (zI q)]) (n := 6) (Nat.le_of_ble_eq_true rfl)
  rw [lg_entry_eq]
  generalize (lg_sl ([.ref (g 0 0), .int (zI k), .int (zI w), .int (zI q)]) ++ List.replicate (6 - (lg_sl ([.ref (g 0 0), .int (zI k), .int (zI w), .int (zI q)])).length) Slot.unset).toArray = ls at hl ⊢
  have hl : lv_has ls 6 [(0, .ref (g 0 0)), (1, .int (zI k)), (2, .int (zI w)), (3, .int (zI q))] := hl
  refine lv_aload_n hx hb dL_join_0 rfl (lv_at hl 0 rfl) ?_
  refine lv_iload_n hx hb dL_join_1 rfl (lv_at hl 1 rfl) ?_
  refine lv_iload_n hx hb dL_join_2 rfl (lv_at hl 2 rfl) ?_
  refine lv_iload_n hx hb dL_join_3 rfl (lv_at hl 3 rfl) ?_
  refine z_xmV (As := [.int (zI k), .int (zI w), .int (zI q)]) (rest := []) ⟨hx, hb, hml, hown, hts⟩ (c_X4_join_all l hfl D cI cO cL A eE mi sa g σ s.heap hR k w q h.1 h.2.1 hA) (cwV 3 hts gL_join_X4_join rfl rfl rfl (by decide +kernel) ⟨(Nat.le_of_ble_eq_true rfl), (Nat.le_of_ble_eq_true rfl)⟩) hG.1 va_S.rf (z_recv hK hR.x rfl) rfl hl.1 rfl (Nat.le_of_ble_eq_true rfl) dL_join_4 ⟨(Nat.le_of_ble_eq_true rfl), (Nat.le_of_ble_eq_true rfl)⟩ (fun E ce q9 H1 locs1 hpx hRx hzx hkx hSx hcx hvx hclx => ?_) (fun rv σ' g' HA locsA hpA hRA hzA hkA hSA => ?_)
  · rcases hpx with ⟨ht, rfl⟩ | ⟨ht, rfl⟩
    · refine vx_catch (name := "java/lang/IndexOutOfBoundsException") hown [] ⟨0, 9, 12, 33⟩ [⟨0, 9, 18, 24⟩] (by rw [htab]; rfl) (fun z hz => nomatch hz) (by decide) (by decide) (hts _ ct_L_join_33) (va_Nw.use rfl (hG.1.2.2.2.2.2.2.2.2.2.2.1 (xIO, xIO) (by decide))) hcx hvx hclx ?_
      refine lv_astore (lv' := [(5, .ref q9), (0, .ref (g 0 0)), (1, .int (zI k)), (2, .int (zI w)), (3, .int (zI q))]) hx hb dL_join_12 hl (by decide) rfl (fun ls hl => ?_)
      refine z_sipush hx hb dL_join_14 (by decide +kernel) ?_
      exact vx_ret (W.iret hx hb hr (z_endL (P := zLP D cO A eE g σ (zth_join σ k w q) (zan_join σ k w q) (-7100) (-7300) (0) (zst_join σ k w q)) (v := some (.int (zI (-7100)))) ⟨-7100, rfl, ⟨fun z => by omega, fun z => by omega, fun z => by omega, fun z => by omega⟩, g, rfl, by rw [if_neg (by omega)]; exact hRx⟩ hSx) hSx.2.2 dL_join_17)
    · refine vx_catch (name := "java/lang/IllegalStateException") hown [⟨0, 9, 12, 33⟩] ⟨0, 9, 18, 24⟩ [] (by rw [htab]; rfl) (fun z hz => by
          simp only [List.mem_cons, List.not_mem_nil, or_false] at hz
          subst hz; exact Or.inr ⟨by decide, "java/lang/IndexOutOfBoundsException", hts _ ct_L_join_33, hG.2 (xIS, xIO) (by decide)⟩) (by decide) (by decide) (hts _ ct_L_join_24) (va_Nw.use rfl (hG.1.2.2.2.2.2.2.2.2.2.2.1 (xIS, xIS) (by decide))) hcx hvx hclx ?_
      refine lv_astore (lv' := [(5, .ref q9), (0, .ref (g 0 0)), (1, .int (zI k)), (2, .int (zI w)), (3, .int (zI q))]) hx hb dL_join_18 hl (by decide) rfl (fun ls hl => ?_)
      refine z_sipush hx hb dL_join_20 (by decide +kernel) ?_
      exact vx_ret (W.iret hx hb hr (z_endL (P := zLP D cO A eE g σ (zth_join σ k w q) (zan_join σ k w q) (-7100) (-7300) (0) (zst_join σ k w q)) (v := some (.int (zI (-7300)))) ⟨-7300, rfl, ⟨fun z => by omega, fun z => by omega, fun z => by omega, fun z => by omega⟩, g, rfl, by rw [if_neg (by omega)]; exact hRx⟩ hSx) hSx.2.2 dL_join_23)
  obtain ⟨⟨e1, e2, e3⟩, e4⟩ := hpA
  rw [e2]
  refine lv_istore (lv' := [(4, .int (zI (zan_join σ k w q))), (0, .ref (g 0 0)), (1, .int (zI k)), (2, .int (zI w)), (3, .int (zI q))]) hx hb dL_join_7 hl (by decide) rfl (fun ls hl => ?_)
  refine lv_goto (tgt := 24) hx hb dL_join_9 (by decide) ?_
  refine lv_iload hx hb dL_join_24 (lv_at hl 0 rfl) ?_
  exact vx_ret (W.iret hx hb hr (z_endL (P := zLP D cO A eE g σ (zth_join σ k w q) (zan_join σ k w q) (-7100) (-7300) (0) (zst_join σ k w q)) (v := some (.int (zI (zan_join σ k w q)))) ⟨zan_join σ k w q, rfl, ⟨fun z => rfl, fun z => by omega, fun z => by omega, fun z => by omega⟩, g', e4, by rw [if_pos e1, ← e3]; exact hRA⟩ hSA) hSA.2.2 dL_join_26)

theorem ct_L_again_33 : Cond.classLink RL 33 "java/lang/IndexOutOfBoundsException" ∈ wsL_again := by decide +kernel
theorem ct_L_again_24 : Cond.classLink RL 24 "java/lang/IllegalStateException" ∈ wsL_again := by decide +kernel
set_option maxRecDepth 100000 in
set_option maxHeartbeats 4000000 in
theorem c_L_again (l : Launch) (hfl : l.stackTraces = false) (D : va_G) (cI cO cL : ClassId) (A : Nat → Prop) (eE mi : Nat) (sa : Nat → Nat) (g : zG) (σ : zT) (H0 : Heap) (hR : RX D cO A eE g σ H0) (x0 : Nat) (hx0 : g 0 0 = x0) (h : zAll σ) (k : Int) (hA : (-2147483648 ≤ k ∧ k < 2147483648)) : zLM l yL_again wsL_again ({ frames := 8, cells := 2, slots := 12, locals := 183 }) D cI cO cL A eE mi sa [.ref x0, .int (zI k)] H0 (zLP D cO A eE g σ (zth_again σ k) (zan_again σ k) (-7100) (-7300) (0) (zst_again σ k)) := by
  subst hx0
  refine vx_ofWH (cc := cL_again) (maxL := 4) (ret := (some .int)) (hh := [(0, 6, 9, 33), (0, 6, 14, 24)]) (by decide) rfl ?_
  intro p e s m args below meth c s₁ B hml hv
  obtain ⟨rfl, hH, hG⟩ := hv
  subst hH
  have hK := hG.1.k
  have hx := B.exec
  have hb := B.bytes
  have hr := B.returns
  have hts := atoms_spec (ws := wsL_again) B.pre
  have hown : s.vm.findClass RL = some m.cls := findClass_of_methodNamed B.named
  have hlocks := B.notSynchronized
  have htab := vx_table (x := yL_again) B (hts _ List.mem_cons_self)
  have hl := lv_entry ([.ref (g 0 0), .int (zI k)]) (n := 4) (Nat.le_of_ble_eq_true rfl)
  rw [lg_entry_eq]
  generalize (lg_sl ([.ref (g 0 0), .int (zI k)]) ++ List.replicate (4 - (lg_sl ([.ref (g 0 0), .int (zI k)])).length) Slot.unset).toArray = ls at hl ⊢
  have hl : lv_has ls 4 [(0, .ref (g 0 0)), (1, .int (zI k))] := hl
  refine lv_aload_n hx hb dL_again_0 rfl (lv_at hl 0 rfl) ?_
  refine lv_iload_n hx hb dL_again_1 rfl (lv_at hl 1 rfl) ?_
  refine z_xmV (As := [.int (zI k)]) (rest := []) ⟨hx, hb, hml, hown, hts⟩ (c_X4_again l hfl D cI cO cL A eE mi sa g σ s.heap hR k h.1 hA) (cwV 1 hts gL_again_X4_again rfl rfl rfl (by decide +kernel) ⟨(Nat.le_of_ble_eq_true rfl), (Nat.le_of_ble_eq_true rfl)⟩) hG.1 va_S.rf (z_recv hK hR.x rfl) rfl hl.1 rfl (Nat.le_of_ble_eq_true rfl) dL_again_2 ⟨(Nat.le_of_ble_eq_true rfl), (Nat.le_of_ble_eq_true rfl)⟩ (fun E ce q9 H1 locs1 hpx hRx hzx hkx hSx hcx hvx hclx => ?_) (fun rv σ' g' HA locsA hpA hRA hzA hkA hSA => ?_)
  · rcases hpx with ⟨ht, rfl⟩ | ⟨ht, rfl⟩
    · refine vx_catch (name := "java/lang/IndexOutOfBoundsException") hown [] ⟨0, 6, 9, 33⟩ [⟨0, 6, 14, 24⟩] (by rw [htab]; rfl) (fun z hz => nomatch hz) (by decide) (by decide) (hts _ ct_L_again_33) (va_Nw.use rfl (hG.1.2.2.2.2.2.2.2.2.2.2.1 (xIO, xIO) (by decide))) hcx hvx hclx ?_
      refine lv_astore_n (lv' := [(3, .ref q9), (0, .ref (g 0 0)), (1, .int (zI k))]) hx hb dL_again_9 rfl hl (by decide) rfl (fun ls hl => ?_)
      refine z_sipush hx hb dL_again_10 (by decide +kernel) ?_
      exact vx_ret (W.iret hx hb hr (z_endL (P := zLP D cO A eE g σ (zth_again σ k) (zan_again σ k) (-7100) (-7300) (0) (zst_again σ k)) (v := some (.int (zI (-7100)))) ⟨-7100, rfl, ⟨fun z => by omega, fun z => by omega, fun z => by omega, fun z => by omega⟩, g, rfl, by rw [if_neg (by omega)]; exact hRx⟩ hSx) hSx.2.2 dL_again_13)
    · refine vx_catch (name := "java/lang/IllegalStateException") hown [⟨0, 6, 9, 33⟩] ⟨0, 6, 14, 24⟩ [] (by rw [htab]; rfl) (fun z hz => by
          simp only [List.mem_cons, List.not_mem_nil, or_false] at hz
          subst hz; exact Or.inr ⟨by decide, "java/lang/IndexOutOfBoundsException", hts _ ct_L_again_33, hG.2 (xIS, xIO) (by decide)⟩) (by decide) (by decide) (hts _ ct_L_again_24) (va_Nw.use rfl (hG.1.2.2.2.2.2.2.2.2.2.2.1 (xIS, xIS) (by decide))) hcx hvx hclx ?_
      refine lv_astore_n (lv' := [(3, .ref q9), (0, .ref (g 0 0)), (1, .int (zI k))]) hx hb dL_again_14 rfl hl (by decide) rfl (fun ls hl => ?_)
      refine z_sipush hx hb dL_again_15 (by decide +kernel) ?_
      exact vx_ret (W.iret hx hb hr (z_endL (P := zLP D cO A eE g σ (zth_again σ k) (zan_again σ k) (-7100) (-7300) (0) (zst_again σ k)) (v := some (.int (zI (-7300)))) ⟨-7300, rfl, ⟨fun z => by omega, fun z => by omega, fun z => by omega, fun z => by omega⟩, g, rfl, by rw [if_neg (by omega)]; exact hRx⟩ hSx) hSx.2.2 dL_again_18)
  obtain ⟨⟨e1, e2, e3⟩, e4⟩ := hpA
  rw [e2]
  refine lv_istore_n (lv' := [(2, .int (zI (zan_again σ k))), (0, .ref (g 0 0)), (1, .int (zI k))]) hx hb dL_again_5 rfl hl (by decide) rfl (fun ls hl => ?_)
  refine lv_goto (tgt := 19) hx hb dL_again_6 (by decide) ?_
  refine lv_iload_n hx hb dL_again_19 rfl (lv_at hl 0 rfl) ?_
  exact vx_ret (W.iret hx hb hr (z_endL (P := zLP D cO A eE g σ (zth_again σ k) (zan_again σ k) (-7100) (-7300) (0) (zst_again σ k)) (v := some (.int (zI (zan_again σ k)))) ⟨zan_again σ k, rfl, ⟨fun z => rfl, fun z => by omega, fun z => by omega, fun z => by omega⟩, g', e4, by rw [if_pos e1, ← e3]; exact hRA⟩ hSA) hSA.2.2 dL_again_20)

theorem ct_L_drop_33 : Cond.classLink RL 33 "java/lang/IndexOutOfBoundsException" ∈ wsL_drop := by decide +kernel
theorem ct_L_drop_24 : Cond.classLink RL 24 "java/lang/IllegalStateException" ∈ wsL_drop := by decide +kernel
set_option maxRecDepth 100000 in
set_option maxHeartbeats 4000000 in
theorem c_L_drop (l : Launch) (hfl : l.stackTraces = false) (D : va_G) (cI cO cL : ClassId) (A : Nat → Prop) (eE mi : Nat) (sa : Nat → Nat) (g : zG) (σ : zT) (H0 : Heap) (hR : RX D cO A eE g σ H0) (x0 : Nat) (hx0 : g 0 0 = x0) (h : zAll σ) (k w : Int) (hA : (-2147483648 ≤ k ∧ k < 2147483648) ∧ (-2147483648 ≤ w ∧ w < 2147483648)) : zLM l yL_drop wsL_drop ({ frames := 9, cells := 3, slots := 18, locals := 210 }) D cI cO cL A eE mi sa [.ref x0, .int (zI k), .int (zI w)] H0 (zLP D cO A eE g σ (zth_drop σ k w) (zan_drop σ k w) (-7100) (-7300) (0) (zst_drop σ k w)) := by
  subst hx0
  refine vx_ofWH (cc := cL_drop) (maxL := 5) (ret := (some .int)) (hh := [(0, 7, 10, 33), (0, 7, 16, 24)]) (by decide) rfl ?_
  intro p e s m args below meth c s₁ B hml hv
  obtain ⟨rfl, hH, hG⟩ := hv
  subst hH
  have hK := hG.1.k
  have hx := B.exec
  have hb := B.bytes
  have hr := B.returns
  have hts := atoms_spec (ws := wsL_drop) B.pre
  have hown : s.vm.findClass RL = some m.cls := findClass_of_methodNamed B.named
  have hlocks := B.notSynchronized
  have htab := vx_table (x := yL_drop) B (hts _ List.mem_cons_self)
  have hl := lv_entry ([.ref (g 0 0), .int (zI k), .int (zI w)]) (n := 5) (Nat.le_of_ble_eq_true rfl)
  rw [lg_entry_eq]
  generalize (lg_sl ([.ref (g 0 0), .int (zI k), .int (zI w)]) ++ List.replicate (5 - (lg_sl ([.ref (g 0 0), .int (zI k), .int (zI w)])).length) Slot.unset).toArray = ls at hl ⊢
  have hl : lv_has ls 5 [(0, .ref (g 0 0)), (1, .int (zI k)), (2, .int (zI w))] := hl
  refine lv_aload_n hx hb dL_drop_0 rfl (lv_at hl 0 rfl) ?_
  refine lv_iload_n hx hb dL_drop_1 rfl (lv_at hl 1 rfl) ?_
  refine lv_iload_n hx hb dL_drop_2 rfl (lv_at hl 2 rfl) ?_
  refine z_xmV (As := [.int (zI k), .int (zI w)]) (rest := []) ⟨hx, hb, hml, hown, hts⟩ (c_X4_drop l hfl D cI cO cL A eE mi sa g σ s.heap hR k w h.1 h.2.1 hA) (cwV 2 hts gL_drop_X4_drop rfl rfl rfl (by decide +kernel) ⟨(Nat.le_of_ble_eq_true rfl), (Nat.le_of_ble_eq_true rfl)⟩) hG.1 va_S.rf (z_recv hK hR.x rfl) rfl hl.1 rfl (Nat.le_of_ble_eq_true rfl) dL_drop_3 ⟨(Nat.le_of_ble_eq_true rfl), (Nat.le_of_ble_eq_true rfl)⟩ (fun E ce q9 H1 locs1 hpx hRx hzx hkx hSx hcx hvx hclx => ?_) (fun rv σ' g' HA locsA hpA hRA hzA hkA hSA => ?_)
  · rcases hpx with ⟨ht, rfl⟩ | ⟨ht, rfl⟩
    · refine vx_catch (name := "java/lang/IndexOutOfBoundsException") hown [] ⟨0, 7, 10, 33⟩ [⟨0, 7, 16, 24⟩] (by rw [htab]; rfl) (fun z hz => nomatch hz) (by decide) (by decide) (hts _ ct_L_drop_33) (va_Nw.use rfl (hG.1.2.2.2.2.2.2.2.2.2.2.1 (xIO, xIO) (by decide))) hcx hvx hclx ?_
      refine lv_astore (lv' := [(4, .ref q9), (0, .ref (g 0 0)), (1, .int (zI k)), (2, .int (zI w))]) hx hb dL_drop_10 hl (by decide) rfl (fun ls hl => ?_)
      refine z_sipush hx hb dL_drop_12 (by decide +kernel) ?_
      exact vx_ret (W.iret hx hb hr (z_endL (P := zLP D cO A eE g σ (zth_drop σ k w) (zan_drop σ k w) (-7100) (-7300) (0) (zst_drop σ k w)) (v := some (.int (zI (-7100)))) ⟨-7100, rfl, ⟨fun z => by omega, fun z => by omega, fun z => by omega, fun z => by omega⟩, g, rfl, by rw [if_neg (by omega)]; exact hRx⟩ hSx) hSx.2.2 dL_drop_15)
    · refine vx_catch (name := "java/lang/IllegalStateException") hown [⟨0, 7, 10, 33⟩] ⟨0, 7, 16, 24⟩ [] (by rw [htab]; rfl) (fun z hz => by
          simp only [List.mem_cons, List.not_mem_nil, or_false] at hz
          subst hz; exact Or.inr ⟨by decide, "java/lang/IndexOutOfBoundsException", hts _ ct_L_drop_33, hG.2 (xIS, xIO) (by decide)⟩) (by decide) (by decide) (hts _ ct_L_drop_24) (va_Nw.use rfl (hG.1.2.2.2.2.2.2.2.2.2.2.1 (xIS, xIS) (by decide))) hcx hvx hclx ?_
      refine lv_astore (lv' := [(4, .ref q9), (0, .ref (g 0 0)), (1, .int (zI k)), (2, .int (zI w))]) hx hb dL_drop_16 hl (by decide) rfl (fun ls hl => ?_)
      refine z_sipush hx hb dL_drop_18 (by decide +kernel) ?_
      exact vx_ret (W.iret hx hb hr (z_endL (P := zLP D cO A eE g σ (zth_drop σ k w) (zan_drop σ k w) (-7100) (-7300) (0) (zst_drop σ k w)) (v := some (.int (zI (-7300)))) ⟨-7300, rfl, ⟨fun z => by omega, fun z => by omega, fun z => by omega, fun z => by omega⟩, g, rfl, by rw [if_neg (by omega)]; exact hRx⟩ hSx) hSx.2.2 dL_drop_21)
  obtain ⟨⟨e1, e2, e3⟩, e4⟩ := hpA
  rw [e2]
  refine lv_istore_n (lv' := [(3, .int (zI (zan_drop σ k w))), (0, .ref (g 0 0)), (1, .int (zI k)), (2, .int (zI w))]) hx hb dL_drop_6 rfl hl (by decide) rfl (fun ls hl => ?_)
  refine lv_goto (tgt := 22) hx hb dL_drop_7 (by decide) ?_
  refine lv_iload_n hx hb dL_drop_22 rfl (lv_at hl 0 rfl) ?_
  exact vx_ret (W.iret hx hb hr (z_endL (P := zLP D cO A eE g σ (zth_drop σ k w) (zan_drop σ k w) (-7100) (-7300) (0) (zst_drop σ k w)) (v := some (.int (zI (zan_drop σ k w)))) ⟨zan_drop σ k w, rfl, ⟨fun z => rfl, fun z => by omega, fun z => by omega, fun z => by omega⟩, g', e4, by rw [if_pos e1, ← e3]; exact hRA⟩ hSA) hSA.2.2 dL_drop_23)

theorem ct_L_pass_14 : Cond.classLink RL 14 "java/lang/IllegalArgumentException" ∈ wsL_pass := by decide +kernel
theorem ct_L_pass_24 : Cond.classLink RL 24 "java/lang/IllegalStateException" ∈ wsL_pass := by decide +kernel
set_option maxRecDepth 100000 in
set_option maxHeartbeats 4000000 in
theorem c_L_pass (l : Launch) (hfl : l.stackTraces = false) (D : va_G) (cI cO cL : ClassId) (A : Nat → Prop) (eE mi : Nat) (sa : Nat → Nat) (g : zG) (σ : zT) (H0 : Heap) (hR : RX D cO A eE g σ H0) (x0 : Nat) (hx0 : g 0 0 = x0) (h : zAll σ) (mn : Int) (hA : (-2147483648 ≤ mn ∧ mn < 2147483648)) : zLM l yL_pass wsL_pass ({ frames := 8, cells := 2, slots := 12, locals := 127 }) D cI cO cL A eE mi sa [.ref x0, .int (zI mn)] H0 (zLP D cO A eE g σ (zth_pass σ mn) (zan_pass σ mn) (-7200) (-7300) (0) (zst_pass σ mn)) := by
  subst hx0
  refine vx_ofWH (cc := cL_pass) (maxL := 4) (ret := (some .int)) (hh := [(0, 6, 9, 14), (0, 6, 14, 24)]) (by decide) rfl ?_
  intro p e s m args below meth c s₁ B hml hv
  obtain ⟨rfl, hH, hG⟩ := hv
  subst hH
  have hK := hG.1.k
  have hx := B.exec
  have hb := B.bytes
  have hr := B.returns
  have hts := atoms_spec (ws := wsL_pass) B.pre
  have hown : s.vm.findClass RL = some m.cls := findClass_of_methodNamed B.named
  have hlocks := B.notSynchronized
  have htab := vx_table (x := yL_pass) B (hts _ List.mem_cons_self)
  have hl := lv_entry ([.ref (g 0 0), .int (zI mn)]) (n := 4) (Nat.le_of_ble_eq_true rfl)
  rw [lg_entry_eq]
  generalize (lg_sl ([.ref (g 0 0), .int (zI mn)]) ++ List.replicate (4 - (lg_sl ([.ref (g 0 0), .int (zI mn)])).length) Slot.unset).toArray = ls at hl ⊢
  have hl : lv_has ls 4 [(0, .ref (g 0 0)), (1, .int (zI mn))] := hl
  refine lv_aload_n hx hb dL_pass_0 rfl (lv_at hl 0 rfl) ?_
  refine lv_iload_n hx hb dL_pass_1 rfl (lv_at hl 1 rfl) ?_
  refine z_xmV (As := [.int (zI mn)]) (rest := []) ⟨hx, hb, hml, hown, hts⟩ (c_X4_pass l hfl D cI cO cL A eE mi sa g σ s.heap hR mn h.1 h.2.1 hA) (cwV 1 hts gL_pass_X4_pass rfl rfl rfl (by decide +kernel) ⟨(Nat.le_of_ble_eq_true rfl), (Nat.le_of_ble_eq_true rfl)⟩) hG.1 va_S.rf (z_recv hK hR.x rfl) rfl hl.1 rfl (Nat.le_of_ble_eq_true rfl) dL_pass_2 ⟨(Nat.le_of_ble_eq_true rfl), (Nat.le_of_ble_eq_true rfl)⟩ (fun E ce q9 H1 locs1 hpx hRx hzx hkx hSx hcx hvx hclx => ?_) (fun rv σ' g' HA locsA hpA hRA hzA hkA hSA => ?_)
  · rcases hpx with ⟨ht, rfl⟩ | ⟨ht, rfl⟩
    · refine vx_catch (name := "java/lang/IllegalArgumentException") hown [] ⟨0, 6, 9, 14⟩ [⟨0, 6, 14, 24⟩] (by rw [htab]; rfl) (fun z hz => nomatch hz) (by decide) (by decide) (hts _ ct_L_pass_14) (va_Nw.use rfl (hG.1.2.2.2.2.2.2.2.2.2.2.1 (xIA, xIA) (by decide))) hcx hvx hclx ?_
      refine lv_astore_n (lv' := [(3, .ref q9), (0, .ref (g 0 0)), (1, .int (zI mn))]) hx hb dL_pass_9 rfl hl (by decide) rfl (fun ls hl => ?_)
      refine z_sipush hx hb dL_pass_10 (by decide +kernel) ?_
      exact vx_ret (W.iret hx hb hr (z_endL (P := zLP D cO A eE g σ (zth_pass σ mn) (zan_pass σ mn) (-7200) (-7300) (0) (zst_pass σ mn)) (v := some (.int (zI (-7200)))) ⟨-7200, rfl, ⟨fun z => by omega, fun z => by omega, fun z => by omega, fun z => by omega⟩, g, rfl, by rw [if_neg (by omega)]; exact hRx⟩ hSx) hSx.2.2 dL_pass_13)
    · refine vx_catch (name := "java/lang/IllegalStateException") hown [⟨0, 6, 9, 14⟩] ⟨0, 6, 14, 24⟩ [] (by rw [htab]; rfl) (fun z hz => by
          simp only [List.mem_cons, List.not_mem_nil, or_false] at hz
          subst hz; exact Or.inr ⟨by decide, "java/lang/IllegalArgumentException", hts _ ct_L_pass_14, hG.2 (xIS, xIA) (by decide)⟩) (by decide) (by decide) (hts _ ct_L_pass_24) (va_Nw.use rfl (hG.1.2.2.2.2.2.2.2.2.2.2.1 (xIS, xIS) (by decide))) hcx hvx hclx ?_
      refine lv_astore_n (lv' := [(3, .ref q9), (0, .ref (g 0 0)), (1, .int (zI mn))]) hx hb dL_pass_14 rfl hl (by decide) rfl (fun ls hl => ?_)
      refine z_sipush hx hb dL_pass_15 (by decide +kernel) ?_
      exact vx_ret (W.iret hx hb hr (z_endL (P := zLP D cO A eE g σ (zth_pass σ mn) (zan_pass σ mn) (-7200) (-7300) (0) (zst_pass σ mn)) (v := some (.int (zI (-7300)))) ⟨-7300, rfl, ⟨fun z => by omega, fun z => by omega, fun z => by omega, fun z => by omega⟩, g, rfl, by rw [if_neg (by omega)]; exact hRx⟩ hSx) hSx.2.2 dL_pass_18)
  obtain ⟨⟨e1, e2, e3⟩, e4⟩ := hpA
  rw [e2]
  refine lv_istore_n (lv' := [(2, .int (zI (zan_pass σ mn))), (0, .ref (g 0 0)), (1, .int (zI mn))]) hx hb dL_pass_5 rfl hl (by decide) rfl (fun ls hl => ?_)
  refine lv_goto (tgt := 19) hx hb dL_pass_6 (by decide) ?_
  refine lv_iload_n hx hb dL_pass_19 rfl (lv_at hl 0 rfl) ?_
  exact vx_ret (W.iret hx hb hr (z_endL (P := zLP D cO A eE g σ (zth_pass σ mn) (zan_pass σ mn) (-7200) (-7300) (0) (zst_pass σ mn)) (v := some (.int (zI (zan_pass σ mn)))) ⟨zan_pass σ mn, rfl, ⟨fun z => rfl, fun z => by omega, fun z => by omega, fun z => by omega⟩, g', e4, by rw [if_pos e1, ← e3]; exact hRA⟩ hSA) hSA.2.2 dL_pass_20)

theorem ct_L_level_14 : Cond.classLink RL 14 "java/lang/IllegalArgumentException" ∈ wsL_level := by decide +kernel
set_option maxRecDepth 100000 in
set_option maxHeartbeats 4000000 in
theorem c_L_level (l : Launch) (hfl : l.stackTraces = false) (D : va_G) (cI cO cL : ClassId) (A : Nat → Prop) (eE mi : Nat) (sa : Nat → Nat) (g : zG) (σ : zT) (H0 : Heap) (hR : RX D cO A eE g σ H0) (x0 : Nat) (hx0 : g 0 0 = x0) (h : zAll σ) (t : Int) (hA : (-2147483648 ≤ t ∧ t < 2147483648)) : zLM l yL_level wsL_level ({ frames := 8, cells := 1, slots := 6, locals := 125 }) D cI cO cL A eE mi sa [.ref x0, .int (zI t)] H0 (zLP D cO A eE g σ (zth_level t) (zLev σ t) (-7200) (0) (0) (σ)) := by
  subst hx0
  refine vx_ofWH (cc := cL_level) (maxL := 4) (ret := (some .int)) (hh := [(0, 6, 9, 14)]) (by decide) rfl ?_
  intro p e s m args below meth c s₁ B hml hv
  obtain ⟨rfl, hH, hG⟩ := hv
  subst hH
  have hK := hG.1.k
  have hx := B.exec
  have hb := B.bytes
  have hr := B.returns
  have hts := atoms_spec (ws := wsL_level) B.pre
  have hown : s.vm.findClass RL = some m.cls := findClass_of_methodNamed B.named
  have hlocks := B.notSynchronized
  have htab := vx_table (x := yL_level) B (hts _ List.mem_cons_self)
  have hl := lv_entry ([.ref (g 0 0), .int (zI t)]) (n := 4) (Nat.le_of_ble_eq_true rfl)
  rw [lg_entry_eq]
  generalize (lg_sl ([.ref (g 0 0), .int (zI t)]) ++ List.replicate (4 - (lg_sl ([.ref (g 0 0), .int (zI t)])).length) Slot.unset).toArray = ls at hl ⊢
  have hl : lv_has ls 4 [(0, .ref (g 0 0)), (1, .int (zI t))] := hl
  refine lv_aload_n hx hb dL_level_0 rfl (lv_at hl 0 rfl) ?_
  refine lv_iload_n hx hb dL_level_1 rfl (lv_at hl 1 rfl) ?_
  refine z_xmV (As := [.int (zI t)]) (rest := []) ⟨hx, hb, hml, hown, hts⟩ (c_X4_level l hfl D cI cO cL A eE mi sa g σ s.heap hR t h.1 hA) (cwV 1 hts gL_level_X4_level rfl rfl rfl (by decide +kernel) ⟨(Nat.le_of_ble_eq_true rfl), (Nat.le_of_ble_eq_true rfl)⟩) hG.1 va_S.rf (z_recv hK hR.x rfl) rfl hl.1 rfl (Nat.le_of_ble_eq_true rfl) dL_level_2 ⟨(Nat.le_of_ble_eq_true rfl), (Nat.le_of_ble_eq_true rfl)⟩ (fun E ce q9 H1 locs1 hpx hRx hzx hkx hSx hcx hvx hclx => ?_) (fun rv σ' g' HA locsA hpA hRA hzA hkA hSA => ?_)
  · obtain ⟨ht, rfl⟩ := hpx
    refine vx_catch (name := "java/lang/IllegalArgumentException") hown [] ⟨0, 6, 9, 14⟩ [] (by rw [htab]; rfl) (fun z hz => nomatch hz) (by decide) (by decide) (hts _ ct_L_level_14) (va_Nw.use rfl (hG.1.2.2.2.2.2.2.2.2.2.2.1 (xIA, xIA) (by decide))) hcx hvx hclx ?_
    refine lv_astore_n (lv' := [(3, .ref q9), (0, .ref (g 0 0)), (1, .int (zI t))]) hx hb dL_level_9 rfl hl (by decide) rfl (fun ls hl => ?_)
    refine z_sipush hx hb dL_level_10 (by decide +kernel) ?_
    exact vx_ret (W.iret hx hb hr (z_endL (P := zLP D cO A eE g σ (zth_level t) (zLev σ t) (-7200) (0) (0) (σ)) (v := some (.int (zI (-7200)))) ⟨-7200, rfl, ⟨fun z => by omega, fun z => by omega, fun z => by omega, fun z => by omega⟩, g, rfl, by rw [if_neg (by omega)]; exact hRx⟩ hSx) hSx.2.2 dL_level_13)
  obtain ⟨⟨e1, e2, e3⟩, e4⟩ := hpA
  rw [e2]
  refine lv_istore_n (lv' := [(2, .int (zI (zLev σ t))), (0, .ref (g 0 0)), (1, .int (zI t))]) hx hb dL_level_5 rfl hl (by decide) rfl (fun ls hl => ?_)
  refine lv_goto (tgt := 14) hx hb dL_level_6 (by decide) ?_
  refine lv_iload_n hx hb dL_level_14 rfl (lv_at hl 0 rfl) ?_
  exact vx_ret (W.iret hx hb hr (z_endL (P := zLP D cO A eE g σ (zth_level t) (zLev σ t) (-7200) (0) (0) (σ)) (v := some (.int (zI (zLev σ t)))) ⟨zLev σ t, rfl, ⟨fun z => rfl, fun z => by omega, fun z => by omega, fun z => by omega⟩, g', e4, by rw [if_pos e1, ← e3]; exact hRA⟩ hSA) hSA.2.2 dL_level_15)

theorem ct_L_window_33 : Cond.classLink RL 33 "java/lang/IndexOutOfBoundsException" ∈ wsL_window := by decide +kernel
theorem ct_L_window_14 : Cond.classLink RL 14 "java/lang/IllegalArgumentException" ∈ wsL_window := by decide +kernel
set_option maxRecDepth 100000 in
set_option maxHeartbeats 4000000 in
theorem c_L_window (l : Launch) (hfl : l.stackTraces = false) (D : va_G) (cI cO cL : ClassId) (A : Nat → Prop) (eE mi : Nat) (sa : Nat → Nat) (g : zG) (σ : zT) (H0 : Heap) (hR : RX D cO A eE g σ H0) (x0 : Nat) (hx0 : g 0 0 = x0) (h : zAll σ) (k t : Int) (hA : (-2147483648 ≤ k ∧ k < 2147483648) ∧ (-2147483648 ≤ t ∧ t < 2147483648)) : zLM l yL_window wsL_window ({ frames := 8, cells := 2, slots := 12, locals := 130 }) D cI cO cL A eE mi sa [.ref x0, .int (zI k), .int (zI t)] H0 (zLP D cO A eE g σ (zth_window σ k t) (zan_window σ k t) (-7100) (-7200) (0) (σ)) := by
  subst hx0
  refine vx_ofWH (cc := cL_window) (maxL := 5) (ret := (some .int)) (hh := [(0, 7, 10, 33), (0, 7, 16, 14)]) (by decide) rfl ?_
  intro p e s m args below meth c s₁ B hml hv
  obtain ⟨rfl, hH, hG⟩ := hv
  subst hH
  have hK := hG.1.k
  have hx := B.exec
  have hb := B.bytes
  have hr := B.returns
  have hts := atoms_spec (ws := wsL_window) B.pre
  have hown : s.vm.findClass RL = some m.cls := findClass_of_methodNamed B.named
  have hlocks := B.notSynchronized
  have htab := vx_table (x := yL_window) B (hts _ List.mem_cons_self)
  have hl := lv_entry ([.ref (g 0 0), .int (zI k), .int (zI t)]) (n := 5) (Nat.le_of_ble_eq_true rfl)
  rw [lg_entry_eq]
  generalize (lg_sl ([.ref (g 0 0), .int (zI k), .int (zI t)]) ++ List.replicate (5 - (lg_sl ([.ref (g 0 0), .int (zI k), .int (zI t)])).length) Slot.unset).toArray = ls at hl ⊢
  have hl : lv_has ls 5 [(0, .ref (g 0 0)), (1, .int (zI k)), (2, .int (zI t))] := hl
  refine lv_aload_n hx hb dL_window_0 rfl (lv_at hl 0 rfl) ?_
  refine lv_iload_n hx hb dL_window_1 rfl (lv_at hl 1 rfl) ?_
  refine lv_iload_n hx hb dL_window_2 rfl (lv_at hl 2 rfl) ?_
  refine z_xmV (As := [.int (zI k), .int (zI t)]) (rest := []) ⟨hx, hb, hml, hown, hts⟩ (c_X4_window l hfl D cI cO cL A eE mi sa g σ s.heap hR k t h.1 hA) (cwV 2 hts gL_window_X4_window rfl rfl rfl (by decide +kernel) ⟨(Nat.le_of_ble_eq_true rfl), (Nat.le_of_ble_eq_true rfl)⟩) hG.1 va_S.rf (z_recv hK hR.x rfl) rfl hl.1 rfl (Nat.le_of_ble_eq_true rfl) dL_window_3 ⟨(Nat.le_of_ble_eq_true rfl), (Nat.le_of_ble_eq_true rfl)⟩ (fun E ce q9 H1 locs1 hpx hRx hzx hkx hSx hcx hvx hclx => ?_) (fun rv σ' g' HA locsA hpA hRA hzA hkA hSA => ?_)
  · rcases hpx with ⟨ht, rfl⟩ | ⟨ht, rfl⟩
    · refine vx_catch (name := "java/lang/IndexOutOfBoundsException") hown [] ⟨0, 7, 10, 33⟩ [⟨0, 7, 16, 14⟩] (by rw [htab]; rfl) (fun z hz => nomatch hz) (by decide) (by decide) (hts _ ct_L_window_33) (va_Nw.use rfl (hG.1.2.2.2.2.2.2.2.2.2.2.1 (xIO, xIO) (by decide))) hcx hvx hclx ?_
      refine lv_astore (lv' := [(4, .ref q9), (0, .ref (g 0 0)), (1, .int (zI k)), (2, .int (zI t))]) hx hb dL_window_10 hl (by decide) rfl (fun ls hl => ?_)
      refine z_sipush hx hb dL_window_12 (by decide +kernel) ?_
      exact vx_ret (W.iret hx hb hr (z_endL (P := zLP D cO A eE g σ (zth_window σ k t) (zan_window σ k t) (-7100) (-7200) (0) (σ)) (v := some (.int (zI (-7100)))) ⟨-7100, rfl, ⟨fun z => by omega, fun z => by omega, fun z => by omega, fun z => by omega⟩, g, rfl, by rw [if_neg (by omega)]; exact hRx⟩ hSx) hSx.2.2 dL_window_15)
    · refine vx_catch (name := "java/lang/IllegalArgumentException") hown [⟨0, 7, 10, 33⟩] ⟨0, 7, 16, 14⟩ [] (by rw [htab]; rfl) (fun z hz => by
          simp only [List.mem_cons, List.not_mem_nil, or_false] at hz
          subst hz; exact Or.inr ⟨by decide, "java/lang/IndexOutOfBoundsException", hts _ ct_L_window_33, hG.2 (xIA, xIO) (by decide)⟩) (by decide) (by decide) (hts _ ct_L_window_14) (va_Nw.use rfl (hG.1.2.2.2.2.2.2.2.2.2.2.1 (xIA, xIA) (by decide))) hcx hvx hclx ?_
      refine lv_astore (lv' := [(4, .ref q9), (0, .ref (g 0 0)), (1, .int (zI k)), (2, .int (zI t))]) hx hb dL_window_16 hl (by decide) rfl (fun ls hl => ?_)
      refine z_sipush hx hb dL_window_18 (by decide +kernel) ?_
      exact vx_ret (W.iret hx hb hr (z_endL (P := zLP D cO A eE g σ (zth_window σ k t) (zan_window σ k t) (-7100) (-7200) (0) (σ)) (v := some (.int (zI (-7200)))) ⟨-7200, rfl, ⟨fun z => by omega, fun z => by omega, fun z => by omega, fun z => by omega⟩, g, rfl, by rw [if_neg (by omega)]; exact hRx⟩ hSx) hSx.2.2 dL_window_21)
  obtain ⟨⟨e1, e2, e3⟩, e4⟩ := hpA
  rw [e2]
  refine lv_istore_n (lv' := [(3, .int (zI (zan_window σ k t))), (0, .ref (g 0 0)), (1, .int (zI k)), (2, .int (zI t))]) hx hb dL_window_6 rfl hl (by decide) rfl (fun ls hl => ?_)
  refine lv_goto (tgt := 22) hx hb dL_window_7 (by decide) ?_
  refine lv_iload_n hx hb dL_window_22 rfl (lv_at hl 0 rfl) ?_
  exact vx_ret (W.iret hx hb hr (z_endL (P := zLP D cO A eE g σ (zth_window σ k t) (zan_window σ k t) (-7100) (-7200) (0) (σ)) (v := some (.int (zI (zan_window σ k t)))) ⟨zan_window σ k t, rfl, ⟨fun z => rfl, fun z => by omega, fun z => by omega, fun z => by omega⟩, g', e4, by rw [if_pos e1, ← e3]; exact hRA⟩ hSA) hSA.2.2 dL_window_23)

theorem ct_L_ofConference_33 : Cond.classLink RL 33 "java/lang/IndexOutOfBoundsException" ∈ wsL_ofConference := by decide +kernel
set_option maxRecDepth 100000 in
set_option maxHeartbeats 4000000 in
theorem c_L_ofConference (l : Launch) (hfl : l.stackTraces = false) (D : va_G) (cI cO cL : ClassId) (A : Nat → Prop) (eE mi : Nat) (sa : Nat → Nat) (g : zG) (σ : zT) (H0 : Heap) (hR : RX D cO A eE g σ H0) (x0 : Nat) (hx0 : g 0 0 = x0) (h : zAll σ) (k w : Int) (hA : (-2147483648 ≤ k ∧ k < 2147483648) ∧ (-2147483648 ≤ w ∧ w < 2147483648)) : zLM l yL_ofConference wsL_ofConference ({ frames := 8, cells := 2, slots := 12, locals := 126 }) D cI cO cL A eE mi sa [.ref x0, .int (zI k), .int (zI w)] H0 (zLP D cO A eE g σ (zth_ofC σ k w) (zan_ofC σ k w) (-7100) (0) (0) (σ)) := by
  subst hx0
  refine vx_ofWH (cc := cL_ofConference) (maxL := 5) (ret := (some .int)) (hh := [(0, 7, 10, 33)]) (by decide) rfl ?_
  intro p e s m args below meth c s₁ B hml hv
  obtain ⟨rfl, hH, hG⟩ := hv
  subst hH
  have hK := hG.1.k
  have hx := B.exec
  have hb := B.bytes
  have hr := B.returns
  have hts := atoms_spec (ws := wsL_ofConference) B.pre
  have hown : s.vm.findClass RL = some m.cls := findClass_of_methodNamed B.named
  have hlocks := B.notSynchronized
  have htab := vx_table (x := yL_ofConference) B (hts _ List.mem_cons_self)
  have hl := lv_entry ([.ref (g 0 0), .int (zI k), .int (zI w)]) (n := 5) (Nat.le_of_ble_eq_true rfl)
  rw [lg_entry_eq]
  generalize (lg_sl ([.ref (g 0 0), .int (zI k), .int (zI w)]) ++ List.replicate (5 - (lg_sl ([.ref (g 0 0), .int (zI k), .int (zI w)])).length) Slot.unset).toArray = ls at hl ⊢
  have hl : lv_has ls 5 [(0, .ref (g 0 0)), (1, .int (zI k)), (2, .int (zI w))] := hl
  refine lv_aload_n hx hb dL_ofConference_0 rfl (lv_at hl 0 rfl) ?_
  refine lv_iload_n hx hb dL_ofConference_1 rfl (lv_at hl 1 rfl) ?_
  refine lv_iload_n hx hb dL_ofConference_2 rfl (lv_at hl 2 rfl) ?_
  refine z_xmV (As := [.int (zI k), .int (zI w)]) (rest := []) ⟨hx, hb, hml, hown, hts⟩ (c_X4_ofConference l hfl D cI cO cL A eE mi sa g σ s.heap hR k w h.1 h.2.1 hA) (cwV 2 hts gL_ofConference_X4_ofConference rfl rfl rfl (by decide +kernel) ⟨(Nat.le_of_ble_eq_true rfl), (Nat.le_of_ble_eq_true rfl)⟩) hG.1 va_S.rf (z_recv hK hR.x rfl) rfl hl.1 rfl (Nat.le_of_ble_eq_true rfl) dL_ofConference_3 ⟨(Nat.le_of_ble_eq_true rfl), (Nat.le_of_ble_eq_true rfl)⟩ (fun E ce q9 H1 locs1 hpx hRx hzx hkx hSx hcx hvx hclx => ?_) (fun rv σ' g' HA locsA hpA hRA hzA hkA hSA => ?_)
  · obtain ⟨ht, rfl⟩ := hpx
    refine vx_catch (name := "java/lang/IndexOutOfBoundsException") hown [] ⟨0, 7, 10, 33⟩ [] (by rw [htab]; rfl) (fun z hz => nomatch hz) (by decide) (by decide) (hts _ ct_L_ofConference_33) (va_Nw.use rfl (hG.1.2.2.2.2.2.2.2.2.2.2.1 (xIO, xIO) (by decide))) hcx hvx hclx ?_
    refine lv_astore (lv' := [(4, .ref q9), (0, .ref (g 0 0)), (1, .int (zI k)), (2, .int (zI w))]) hx hb dL_ofConference_10 hl (by decide) rfl (fun ls hl => ?_)
    refine z_sipush hx hb dL_ofConference_12 (by decide +kernel) ?_
    exact vx_ret (W.iret hx hb hr (z_endL (P := zLP D cO A eE g σ (zth_ofC σ k w) (zan_ofC σ k w) (-7100) (0) (0) (σ)) (v := some (.int (zI (-7100)))) ⟨-7100, rfl, ⟨fun z => by omega, fun z => by omega, fun z => by omega, fun z => by omega⟩, g, rfl, by rw [if_neg (by omega)]; exact hRx⟩ hSx) hSx.2.2 dL_ofConference_15)
  obtain ⟨⟨e1, e2, e3⟩, e4⟩ := hpA
  rw [e2]
  refine lv_istore_n (lv' := [(3, .int (zI (zan_ofC σ k w))), (0, .ref (g 0 0)), (1, .int (zI k)), (2, .int (zI w))]) hx hb dL_ofConference_6 rfl hl (by decide) rfl (fun ls hl => ?_)
  refine lv_goto (tgt := 16) hx hb dL_ofConference_7 (by decide) ?_
  refine lv_iload_n hx hb dL_ofConference_16 rfl (lv_at hl 0 rfl) ?_
  exact vx_ret (W.iret hx hb hr (z_endL (P := zLP D cO A eE g σ (zth_ofC σ k w) (zan_ofC σ k w) (-7100) (0) (0) (σ)) (v := some (.int (zI (zan_ofC σ k w)))) ⟨zan_ofC σ k w, rfl, ⟨fun z => rfl, fun z => by omega, fun z => by omega, fun z => by omega⟩, g', e4, by rw [if_pos e1, ← e3]; exact hRA⟩ hSA) hSA.2.2 dL_ofConference_17)

theorem ct_L_why_33 : Cond.classLink RL 33 "java/lang/IndexOutOfBoundsException" ∈ wsL_why := by decide +kernel
theorem ct_L_why_14 : Cond.classLink RL 14 "java/lang/IllegalArgumentException" ∈ wsL_why := by decide +kernel
theorem ct_L_why_24 : Cond.classLink RL 24 "java/lang/IllegalStateException" ∈ wsL_why := by decide +kernel
set_option maxRecDepth 100000 in
set_option maxHeartbeats 4000000 in
theorem c_L_why (l : Launch) (hfl : l.stackTraces = false) (D : va_G) (cI cO cL : ClassId) (A : Nat → Prop) (eE mi : Nat) (sa : Nat → Nat) (g : zG) (σ : zT) (H0 : Heap) (hR : RX D cO A eE g σ H0) (x0 : Nat) (hx0 : g 0 0 = x0) (h : zAll σ) (k t : Int) (hA : (-2147483648 ≤ k ∧ k < 2147483648) ∧ (-2147483648 ≤ t ∧ t < 2147483648)) : zLM l yL_why wsL_why ({ frames := 8, cells := 3, slots := 18, locals := 138 }) D cI cO cL A eE mi sa [.ref x0, .int (zI k), .int (zI t)] H0 (zLP D cO A eE g σ (zth_why σ k t) (zan_why σ k t) (-7100) (-7200) (-7300) (σ)) := by
  subst hx0
  refine vx_ofWH (cc := cL_why) (maxL := 5) (ret := (some .int)) (hh := [(0, 7, 10, 33), (0, 7, 16, 14), (0, 7, 22, 24)]) (by decide) rfl ?_
  intro p e s m args below meth c s₁ B hml hv
  obtain ⟨rfl, hH, hG⟩ := hv
  subst hH
  have hK := hG.1.k
  have hx := B.exec
  have hb := B.bytes
  have hr := B.returns
  have hts := atoms_spec (ws := wsL_why) B.pre
  have hown : s.vm.findClass RL = some m.cls := findClass_of_methodNamed B.named
  have hlocks := B.notSynchronized
  have htab := vx_table (x := yL_why) B (hts _ List.mem_cons_self)
  have hl := lv_entry ([.ref (g 0 0), .int (zI k), .int (zI t)]) (n := 5) (Nat.le_of_ble_eq_true rfl)
  rw [lg_entry_eq]
  generalize (lg_sl ([.ref (g 0 0), .int (zI k), .int (zI t)]) ++ List.replicate (5 - (lg_sl ([.ref (g 0 0), .int (zI k), .int (zI t)])).length) Slot.unset).toArray = ls at hl ⊢
  have hl : lv_has ls 5 [(0, .ref (g 0 0)), (1, .int (zI k)), (2, .int (zI t))] := hl
  refine lv_aload_n hx hb dL_why_0 rfl (lv_at hl 0 rfl) ?_
  refine lv_iload_n hx hb dL_why_1 rfl (lv_at hl 1 rfl) ?_
  refine lv_iload_n hx hb dL_why_2 rfl (lv_at hl 2 rfl) ?_
  refine z_xmV (As := [.int (zI k), .int (zI t)]) (rest := []) ⟨hx, hb, hml, hown, hts⟩ (c_X4_why l hfl D cI cO cL A eE mi sa g σ s.heap hR k t h.1 hA) (cwV 2 hts gL_why_X4_why rfl rfl rfl (by decide +kernel) ⟨(Nat.le_of_ble_eq_true rfl), (Nat.le_of_ble_eq_true rfl)⟩) hG.1 va_S.rf (z_recv hK hR.x rfl) rfl hl.1 rfl (Nat.le_of_ble_eq_true rfl) dL_why_3 ⟨(Nat.le_of_ble_eq_true rfl), (Nat.le_of_ble_eq_true rfl)⟩ (fun E ce q9 H1 locs1 hpx hRx hzx hkx hSx hcx hvx hclx => ?_) (fun rv σ' g' HA locsA hpA hRA hzA hkA hSA => ?_)
  · rcases hpx with ⟨ht, rfl⟩ | ⟨ht, rfl⟩ | ⟨ht, rfl⟩
    · refine vx_catch (name := "java/lang/IndexOutOfBoundsException") hown [] ⟨0, 7, 10, 33⟩ [⟨0, 7, 16, 14⟩, ⟨0, 7, 22, 24⟩] (by rw [htab]; rfl) (fun z hz => nomatch hz) (by decide) (by decide) (hts _ ct_L_why_33) (va_Nw.use rfl (hG.1.2.2.2.2.2.2.2.2.2.2.1 (xIO, xIO) (by decide))) hcx hvx hclx ?_
      refine lv_astore (lv' := [(4, .ref q9), (0, .ref (g 0 0)), (1, .int (zI k)), (2, .int (zI t))]) hx hb dL_why_10 hl (by decide) rfl (fun ls hl => ?_)
      refine z_sipush hx hb dL_why_12 (by decide +kernel) ?_
      exact vx_ret (W.iret hx hb hr (z_endL (P := zLP D cO A eE g σ (zth_why σ k t) (zan_why σ k t) (-7100) (-7200) (-7300) (σ)) (v := some (.int (zI (-7100)))) ⟨-7100, rfl, ⟨fun z => by omega, fun z => by omega, fun z => by omega, fun z => by omega⟩, g, rfl, by rw [if_neg (by omega)]; exact hRx⟩ hSx) hSx.2.2 dL_why_15)
    · refine vx_catch (name := "java/lang/IllegalArgumentException") hown [⟨0, 7, 10, 33⟩] ⟨0, 7, 16, 14⟩ [⟨0, 7, 22, 24⟩] (by rw [htab]; rfl) (fun z hz => by
          simp only [List.mem_cons, List.not_mem_nil, or_false] at hz
          subst hz; exact Or.inr ⟨by decide, "java/lang/IndexOutOfBoundsException", hts _ ct_L_why_33, hG.2 (xIA, xIO) (by decide)⟩) (by decide) (by decide) (hts _ ct_L_why_14) (va_Nw.use rfl (hG.1.2.2.2.2.2.2.2.2.2.2.1 (xIA, xIA) (by decide))) hcx hvx hclx ?_
      refine lv_astore (lv' := [(4, .ref q9), (0, .ref (g 0 0)), (1, .int (zI k)), (2, .int (zI t))]) hx hb dL_why_16 hl (by decide) rfl (fun ls hl => ?_)
      refine z_sipush hx hb dL_why_18 (by decide +kernel) ?_
      exact vx_ret (W.iret hx hb hr (z_endL (P := zLP D cO A eE g σ (zth_why σ k t) (zan_why σ k t) (-7100) (-7200) (-7300) (σ)) (v := some (.int (zI (-7200)))) ⟨-7200, rfl, ⟨fun z => by omega, fun z => by omega, fun z => by omega, fun z => by omega⟩, g, rfl, by rw [if_neg (by omega)]; exact hRx⟩ hSx) hSx.2.2 dL_why_21)
    · refine vx_catch (name := "java/lang/IllegalStateException") hown [⟨0, 7, 10, 33⟩, ⟨0, 7, 16, 14⟩] ⟨0, 7, 22, 24⟩ [] (by rw [htab]; rfl) (fun z hz => by
          simp only [List.mem_cons, List.not_mem_nil, or_false] at hz
          rcases hz with rfl | rfl
          · exact Or.inr ⟨by decide, "java/lang/IndexOutOfBoundsException", hts _ ct_L_why_33, hG.2 (xIS, xIO) (by decide)⟩
          · exact Or.inr ⟨by decide, "java/lang/IllegalArgumentException", hts _ ct_L_why_14, hG.2 (xIS, xIA) (by decide)⟩) (by decide) (by decide) (hts _ ct_L_why_24) (va_Nw.use rfl (hG.1.2.2.2.2.2.2.2.2.2.2.1 (xIS, xIS) (by decide))) hcx hvx hclx ?_
      refine lv_astore (lv' := [(4, .ref q9), (0, .ref (g 0 0)), (1, .int (zI k)), (2, .int (zI t))]) hx hb dL_why_22 hl (by decide) rfl (fun ls hl => ?_)
      refine z_sipush hx hb dL_why_24 (by decide +kernel) ?_
      exact vx_ret (W.iret hx hb hr (z_endL (P := zLP D cO A eE g σ (zth_why σ k t) (zan_why σ k t) (-7100) (-7200) (-7300) (σ)) (v := some (.int (zI (-7300)))) ⟨-7300, rfl, ⟨fun z => by omega, fun z => by omega, fun z => by omega, fun z => by omega⟩, g, rfl, by rw [if_neg (by omega)]; exact hRx⟩ hSx) hSx.2.2 dL_why_27)
  obtain ⟨⟨e1, e2, e3⟩, e4⟩ := hpA
  rw [e2]
  refine lv_istore_n (lv' := [(3, .int (zI (zan_why σ k t))), (0, .ref (g 0 0)), (1, .int (zI k)), (2, .int (zI t))]) hx hb dL_why_6 rfl hl (by decide) rfl (fun ls hl => ?_)
  refine lv_goto (tgt := 28) hx hb dL_why_7 (by decide) ?_
  refine lv_iload_n hx hb dL_why_28 rfl (lv_at hl 0 rfl) ?_
  exact vx_ret (W.iret hx hb hr (z_endL (P := zLP D cO A eE g σ (zth_why σ k t) (zan_why σ k t) (-7100) (-7200) (-7300) (σ)) (v := some (.int (zI (zan_why σ k t)))) ⟨zan_why σ k t, rfl, ⟨fun z => rfl, fun z => by omega, fun z => by omega, fun z => by omega⟩, g', e4, by rw [if_pos e1, ← e3]; exact hRA⟩ hSA) hSA.2.2 dL_why_29)

theorem ct_L_rested_33 : Cond.classLink RL 33 "java/lang/IndexOutOfBoundsException" ∈ wsL_rested := by decide +kernel
set_option maxRecDepth 100000 in
set_option maxHeartbeats 4000000 in
theorem c_L_rested (l : Launch) (hfl : l.stackTraces = false) (D : va_G) (cI cO cL : ClassId) (A : Nat → Prop) (eE mi : Nat) (sa : Nat → Nat) (g : zG) (σ : zT) (H0 : Heap) (hR : RX D cO A eE g σ H0) (x0 : Nat) (hx0 : g 0 0 = x0) (h : zAll σ) (k : Int) (hA : (-2147483648 ≤ k ∧ k < 2147483648)) : zLM l yL_rested wsL_rested ({ frames := 8, cells := 1, slots := 6, locals := 124 }) D cI cO cL A eE mi sa [.ref x0, .int (zI k)] H0 (zLP D cO A eE g σ (zth_pil σ k) (zan_rested σ k) (-7100) (0) (0) (σ)) := by
  subst hx0
  refine vx_ofWH (cc := cL_rested) (maxL := 4) (ret := (some .int)) (hh := [(0, 6, 9, 33)]) (by decide) rfl ?_
  intro p e s m args below meth c s₁ B hml hv
  obtain ⟨rfl, hH, hG⟩ := hv
  subst hH
  have hK := hG.1.k
  have hx := B.exec
  have hb := B.bytes
  have hr := B.returns
  have hts := atoms_spec (ws := wsL_rested) B.pre
  have hown : s.vm.findClass RL = some m.cls := findClass_of_methodNamed B.named
  have hlocks := B.notSynchronized
  have htab := vx_table (x := yL_rested) B (hts _ List.mem_cons_self)
  have hl := lv_entry ([.ref (g 0 0), .int (zI k)]) (n := 4) (Nat.le_of_ble_eq_true rfl)
  rw [lg_entry_eq]
  generalize (lg_sl ([.ref (g 0 0), .int (zI k)]) ++ List.replicate (4 - (lg_sl ([.ref (g 0 0), .int (zI k)])).length) Slot.unset).toArray = ls at hl ⊢
  have hl : lv_has ls 4 [(0, .ref (g 0 0)), (1, .int (zI k))] := hl
  refine lv_aload_n hx hb dL_rested_0 rfl (lv_at hl 0 rfl) ?_
  refine lv_iload_n hx hb dL_rested_1 rfl (lv_at hl 1 rfl) ?_
  refine z_xmV (As := [.int (zI k)]) (rest := []) ⟨hx, hb, hml, hown, hts⟩ (c_X4_rested l hfl D cI cO cL A eE mi sa g σ s.heap hR k h.1 hA) (cwV 1 hts gL_rested_X4_rested rfl rfl rfl (by decide +kernel) ⟨(Nat.le_of_ble_eq_true rfl), (Nat.le_of_ble_eq_true rfl)⟩) hG.1 va_S.rf (z_recv hK hR.x rfl) rfl hl.1 rfl (Nat.le_of_ble_eq_true rfl) dL_rested_2 ⟨(Nat.le_of_ble_eq_true rfl), (Nat.le_of_ble_eq_true rfl)⟩ (fun E ce q9 H1 locs1 hpx hRx hzx hkx hSx hcx hvx hclx => ?_) (fun rv σ' g' HA locsA hpA hRA hzA hkA hSA => ?_)
  · obtain ⟨ht, rfl⟩ := hpx
    refine vx_catch (name := "java/lang/IndexOutOfBoundsException") hown [] ⟨0, 6, 9, 33⟩ [] (by rw [htab]; rfl) (fun z hz => nomatch hz) (by decide) (by decide) (hts _ ct_L_rested_33) (va_Nw.use rfl (hG.1.2.2.2.2.2.2.2.2.2.2.1 (xIO, xIO) (by decide))) hcx hvx hclx ?_
    refine lv_astore_n (lv' := [(3, .ref q9), (0, .ref (g 0 0)), (1, .int (zI k))]) hx hb dL_rested_9 rfl hl (by decide) rfl (fun ls hl => ?_)
    refine z_sipush hx hb dL_rested_10 (by decide +kernel) ?_
    exact vx_ret (W.iret hx hb hr (z_endL (P := zLP D cO A eE g σ (zth_pil σ k) (zan_rested σ k) (-7100) (0) (0) (σ)) (v := some (.int (zI (-7100)))) ⟨-7100, rfl, ⟨fun z => by omega, fun z => by omega, fun z => by omega, fun z => by omega⟩, g, rfl, by rw [if_neg (by omega)]; exact hRx⟩ hSx) hSx.2.2 dL_rested_13)
  obtain ⟨⟨e1, e2, e3⟩, e4⟩ := hpA
  rw [e2]
  refine lv_istore_n (lv' := [(2, .int (zI (zan_rested σ k))), (0, .ref (g 0 0)), (1, .int (zI k))]) hx hb dL_rested_5 rfl hl (by decide) rfl (fun ls hl => ?_)
  refine lv_goto (tgt := 14) hx hb dL_rested_6 (by decide) ?_
  refine lv_iload_n hx hb dL_rested_14 rfl (lv_at hl 0 rfl) ?_
  exact vx_ret (W.iret hx hb hr (z_endL (P := zLP D cO A eE g σ (zth_pil σ k) (zan_rested σ k) (-7100) (0) (0) (σ)) (v := some (.int (zI (zan_rested σ k)))) ⟨zan_rested σ k, rfl, ⟨fun z => rfl, fun z => by omega, fun z => by omega, fun z => by omega⟩, g', e4, by rw [if_pos e1, ← e3]; exact hRA⟩ hSA) hSA.2.2 dL_rested_15)

theorem ct_L_restedAnew_33 : Cond.classLink RL 33 "java/lang/IndexOutOfBoundsException" ∈ wsL_restedAnew := by decide +kernel
set_option maxRecDepth 100000 in
set_option maxHeartbeats 4000000 in
theorem c_L_restedAnew (l : Launch) (hfl : l.stackTraces = false) (D : va_G) (cI cO cL : ClassId) (A : Nat → Prop) (eE mi : Nat) (sa : Nat → Nat) (g : zG) (σ : zT) (H0 : Heap) (hR : RX D cO A eE g σ H0) (x0 : Nat) (hx0 : g 0 0 = x0) (h : zAll σ) (k : Int) (hA : (-2147483648 ≤ k ∧ k < 2147483648)) : zLM l yL_restedAnew wsL_restedAnew ({ frames := 8, cells := 1, slots := 6, locals := 124 }) D cI cO cL A eE mi sa [.ref x0, .int (zI k)] H0 (zLP D cO A eE g σ (zth_pil σ k) (zan_rested σ k) (-7100) (0) (0) (σ)) := by
  subst hx0
  refine vx_ofWH (cc := cL_restedAnew) (maxL := 4) (ret := (some .int)) (hh := [(0, 6, 9, 33)]) (by decide) rfl ?_
  intro p e s m args below meth c s₁ B hml hv
  obtain ⟨rfl, hH, hG⟩ := hv
  subst hH
  have hK := hG.1.k
  have hx := B.exec
  have hb := B.bytes
  have hr := B.returns
  have hts := atoms_spec (ws := wsL_restedAnew) B.pre
  have hown : s.vm.findClass RL = some m.cls := findClass_of_methodNamed B.named
  have hlocks := B.notSynchronized
  have htab := vx_table (x := yL_restedAnew) B (hts _ List.mem_cons_self)
  have hl := lv_entry ([.ref (g 0 0), .int (zI k)]) (n := 4) (Nat.le_of_ble_eq_true rfl)
  rw [lg_entry_eq]
  generalize (lg_sl ([.ref (g 0 0), .int (zI k)]) ++ List.replicate (4 - (lg_sl ([.ref (g 0 0), .int (zI k)])).length) Slot.unset).toArray = ls at hl ⊢
  have hl : lv_has ls 4 [(0, .ref (g 0 0)), (1, .int (zI k))] := hl
  refine lv_aload_n hx hb dL_restedAnew_0 rfl (lv_at hl 0 rfl) ?_
  refine lv_iload_n hx hb dL_restedAnew_1 rfl (lv_at hl 1 rfl) ?_
  refine z_xmV (As := [.int (zI k)]) (rest := []) ⟨hx, hb, hml, hown, hts⟩ (c_X4_restedAnew l hfl D cI cO cL A eE mi sa g σ s.heap hR k h.1 hA) (cwV 1 hts gL_restedAnew_X4_restedAnew rfl rfl rfl (by decide +kernel) ⟨(Nat.le_of_ble_eq_true rfl), (Nat.le_of_ble_eq_true rfl)⟩) hG.1 va_S.rf (z_recv hK hR.x rfl) rfl hl.1 rfl (Nat.le_of_ble_eq_true rfl) dL_restedAnew_2 ⟨(Nat.le_of_ble_eq_true rfl), (Nat.le_of_ble_eq_true rfl)⟩ (fun E ce q9 H1 locs1 hpx hRx hzx hkx hSx hcx hvx hclx => ?_) (fun rv σ' g' HA locsA hpA hRA hzA hkA hSA => ?_)
  · obtain ⟨ht, rfl⟩ := hpx
    refine vx_catch (name := "java/lang/IndexOutOfBoundsException") hown [] ⟨0, 6, 9, 33⟩ [] (by rw [htab]; rfl) (fun z hz => nomatch hz) (by decide) (by decide) (hts _ ct_L_restedAnew_33) (va_Nw.use rfl (hG.1.2.2.2.2.2.2.2.2.2.2.1 (xIO, xIO) (by decide))) hcx hvx hclx ?_
    refine lv_astore_n (lv' := [(3, .ref q9), (0, .ref (g 0 0)), (1, .int (zI k))]) hx hb dL_restedAnew_9 rfl hl (by decide) rfl (fun ls hl => ?_)
    refine z_sipush hx hb dL_restedAnew_10 (by decide +kernel) ?_
    exact vx_ret (W.iret hx hb hr (z_endL (P := zLP D cO A eE g σ (zth_pil σ k) (zan_rested σ k) (-7100) (0) (0) (σ)) (v := some (.int (zI (-7100)))) ⟨-7100, rfl, ⟨fun z => by omega, fun z => by omega, fun z => by omega, fun z => by omega⟩, g, rfl, by rw [if_neg (by omega)]; exact hRx⟩ hSx) hSx.2.2 dL_restedAnew_13)
  obtain ⟨⟨e1, e2, e3⟩, e4⟩ := hpA
  rw [e2]
  refine lv_istore_n (lv' := [(2, .int (zI (zan_rested σ k))), (0, .ref (g 0 0)), (1, .int (zI k))]) hx hb dL_restedAnew_5 rfl hl (by decide) rfl (fun ls hl => ?_)
  refine lv_goto (tgt := 14) hx hb dL_restedAnew_6 (by decide) ?_
  refine lv_iload_n hx hb dL_restedAnew_14 rfl (lv_at hl 0 rfl) ?_
  exact vx_ret (W.iret hx hb hr (z_endL (P := zLP D cO A eE g σ (zth_pil σ k) (zan_rested σ k) (-7100) (0) (0) (σ)) (v := some (.int (zI (zan_rested σ k)))) ⟨zan_rested σ k, rfl, ⟨fun z => rfl, fun z => by omega, fun z => by omega, fun z => by omega⟩, g', e4, by rw [if_pos e1, ← e3]; exact hRA⟩ hSA) hSA.2.2 dL_restedAnew_15)

theorem ct_L_bill_33 : Cond.classLink RL 33 "java/lang/IndexOutOfBoundsException" ∈ wsL_bill := by decide +kernel
set_option maxRecDepth 100000 in
set_option maxHeartbeats 4000000 in
theorem c_L_bill (l : Launch) (hfl : l.stackTraces = false) (D : va_G) (cI cO cL : ClassId) (A : Nat → Prop) (eE mi : Nat) (sa : Nat → Nat) (g : zG) (σ : zT) (H0 : Heap) (hR : RX D cO A eE g σ H0) (x0 : Nat) (hx0 : g 0 0 = x0) (h : zAll σ) (k : Int) (hA : (-2147483648 ≤ k ∧ k < 2147483648)) : zLM l yL_bill wsL_bill ({ frames := 8, cells := 1, slots := 6, locals := 124 }) D cI cO cL A eE mi sa [.ref x0, .int (zI k)] H0 (zLP D cO A eE g σ (zth_bill σ k) (σ 10 k) (-7100) (0) (0) (σ)) := by
  subst hx0
  refine vx_ofWH (cc := cL_bill) (maxL := 4) (ret := (some .int)) (hh := [(0, 6, 9, 33)]) (by decide) rfl ?_
  intro p e s m args below meth c s₁ B hml hv
  obtain ⟨rfl, hH, hG⟩ := hv
  subst hH
  have hK := hG.1.k
  have hx := B.exec
  have hb := B.bytes
  have hr := B.returns
  have hts := atoms_spec (ws := wsL_bill) B.pre
  have hown : s.vm.findClass RL = some m.cls := findClass_of_methodNamed B.named
  have hlocks := B.notSynchronized
  have htab := vx_table (x := yL_bill) B (hts _ List.mem_cons_self)
  have hl := lv_entry ([.ref (g 0 0), .int (zI k)]) (n := 4) (Nat.le_of_ble_eq_true rfl)
  rw [lg_entry_eq]
  generalize (lg_sl ([.ref (g 0 0), .int (zI k)]) ++ List.replicate (4 - (lg_sl ([.ref (g 0 0), .int (zI k)])).length) Slot.unset).toArray = ls at hl ⊢
  have hl : lv_has ls 4 [(0, .ref (g 0 0)), (1, .int (zI k))] := hl
  refine lv_aload_n hx hb dL_bill_0 rfl (lv_at hl 0 rfl) ?_
  refine lv_iload_n hx hb dL_bill_1 rfl (lv_at hl 1 rfl) ?_
  refine z_xmV (As := [.int (zI k)]) (rest := []) ⟨hx, hb, hml, hown, hts⟩ (c_X4_bill l hfl D cI cO cL A eE mi sa g σ s.heap hR k h.1 hA) (cwV 1 hts gL_bill_X4_bill rfl rfl rfl (by decide +kernel) ⟨(Nat.le_of_ble_eq_true rfl), (Nat.le_of_ble_eq_true rfl)⟩) hG.1 va_S.rf (z_recv hK hR.x rfl) rfl hl.1 rfl (Nat.le_of_ble_eq_true rfl) dL_bill_2 ⟨(Nat.le_of_ble_eq_true rfl), (Nat.le_of_ble_eq_true rfl)⟩ (fun E ce q9 H1 locs1 hpx hRx hzx hkx hSx hcx hvx hclx => ?_) (fun rv σ' g' HA locsA hpA hRA hzA hkA hSA => ?_)
  · obtain ⟨ht, rfl⟩ := hpx
    refine vx_catch (name := "java/lang/IndexOutOfBoundsException") hown [] ⟨0, 6, 9, 33⟩ [] (by rw [htab]; rfl) (fun z hz => nomatch hz) (by decide) (by decide) (hts _ ct_L_bill_33) (va_Nw.use rfl (hG.1.2.2.2.2.2.2.2.2.2.2.1 (xIO, xIO) (by decide))) hcx hvx hclx ?_
    refine lv_astore_n (lv' := [(3, .ref q9), (0, .ref (g 0 0)), (1, .int (zI k))]) hx hb dL_bill_9 rfl hl (by decide) rfl (fun ls hl => ?_)
    refine z_sipush hx hb dL_bill_10 (by decide +kernel) ?_
    exact vx_ret (W.iret hx hb hr (z_endL (P := zLP D cO A eE g σ (zth_bill σ k) (σ 10 k) (-7100) (0) (0) (σ)) (v := some (.int (zI (-7100)))) ⟨-7100, rfl, ⟨fun z => by omega, fun z => by omega, fun z => by omega, fun z => by omega⟩, g, rfl, by rw [if_neg (by omega)]; exact hRx⟩ hSx) hSx.2.2 dL_bill_13)
  obtain ⟨⟨e1, e2, e3⟩, e4⟩ := hpA
  rw [e2]
  refine lv_istore_n (lv' := [(2, .int (zI (σ 10 k))), (0, .ref (g 0 0)), (1, .int (zI k))]) hx hb dL_bill_5 rfl hl (by decide) rfl (fun ls hl => ?_)
  refine lv_goto (tgt := 14) hx hb dL_bill_6 (by decide) ?_
  refine lv_iload_n hx hb dL_bill_14 rfl (lv_at hl 0 rfl) ?_
  exact vx_ret (W.iret hx hb hr (z_endL (P := zLP D cO A eE g σ (zth_bill σ k) (σ 10 k) (-7100) (0) (0) (σ)) (v := some (.int (zI (σ 10 k)))) ⟨σ 10 k, rfl, ⟨fun z => rfl, fun z => by omega, fun z => by omega, fun z => by omega⟩, g', e4, by rw [if_pos e1, ← e3]; exact hRA⟩ hSA) hSA.2.2 dL_bill_15)

theorem ct_L_ofPilot_33 : Cond.classLink RL 33 "java/lang/IndexOutOfBoundsException" ∈ wsL_ofPilot := by decide +kernel
set_option maxRecDepth 100000 in
set_option maxHeartbeats 4000000 in
theorem c_L_ofPilot (l : Launch) (hfl : l.stackTraces = false) (D : va_G) (cI cO cL : ClassId) (A : Nat → Prop) (eE mi : Nat) (sa : Nat → Nat) (g : zG) (σ : zT) (H0 : Heap) (hR : RX D cO A eE g σ H0) (x0 : Nat) (hx0 : g 0 0 = x0) (h : zAll σ) (k w : Int) (hA : (-2147483648 ≤ k ∧ k < 2147483648) ∧ (-2147483648 ≤ w ∧ w < 2147483648)) : zLM l yL_ofPilot wsL_ofPilot ({ frames := 8, cells := 2, slots := 12, locals := 126 }) D cI cO cL A eE mi sa [.ref x0, .int (zI k), .int (zI w)] H0 (zLP D cO A eE g σ (zth_ofP σ k w) (zan_ofP σ k w) (-7100) (0) (0) (σ)) := by
  subst hx0
  refine vx_ofWH (cc := cL_ofPilot) (maxL := 5) (ret := (some .int)) (hh := [(0, 7, 10, 33)]) (by decide) rfl ?_
  intro p e s m args below meth c s₁ B hml hv
  obtain ⟨rfl, hH, hG⟩ := hv
  subst hH
  have hK := hG.1.k
  have hx := B.exec
  have hb := B.bytes
  have hr := B.returns
  have hts := atoms_spec (ws := wsL_ofPilot) B.pre
  have hown : s.vm.findClass RL = some m.cls := findClass_of_methodNamed B.named
  have hlocks := B.notSynchronized
  have htab := vx_table (x := yL_ofPilot) B (hts _ List.mem_cons_self)
  have hl := lv_entry ([.ref (g 0 0), .int (zI k), .int (zI w)]) (n := 5) (Nat.le_of_ble_eq_true rfl)
  rw [lg_entry_eq]
  generalize (lg_sl ([.ref (g 0 0), .int (zI k), .int (zI w)]) ++ List.replicate (5 - (lg_sl ([.ref (g 0 0), .int (zI k), .int (zI w)])).length) Slot.unset).toArray = ls at hl ⊢
  have hl : lv_has ls 5 [(0, .ref (g 0 0)), (1, .int (zI k)), (2, .int (zI w))] := hl
  refine lv_aload_n hx hb dL_ofPilot_0 rfl (lv_at hl 0 rfl) ?_
  refine lv_iload_n hx hb dL_ofPilot_1 rfl (lv_at hl 1 rfl) ?_
  refine lv_iload_n hx hb dL_ofPilot_2 rfl (lv_at hl 2 rfl) ?_
  refine z_xmV (As := [.int (zI k), .int (zI w)]) (rest := []) ⟨hx, hb, hml, hown, hts⟩ (c_X4_ofPilot l hfl D cI cO cL A eE mi sa g σ s.heap hR k w h.1 h.2.2.1 hA) (cwV 2 hts gL_ofPilot_X4_ofPilot rfl rfl rfl (by decide +kernel) ⟨(Nat.le_of_ble_eq_true rfl), (Nat.le_of_ble_eq_true rfl)⟩) hG.1 va_S.rf (z_recv hK hR.x rfl) rfl hl.1 rfl (Nat.le_of_ble_eq_true rfl) dL_ofPilot_3 ⟨(Nat.le_of_ble_eq_true rfl), (Nat.le_of_ble_eq_true rfl)⟩ (fun E ce q9 H1 locs1 hpx hRx hzx hkx hSx hcx hvx hclx => ?_) (fun rv σ' g' HA locsA hpA hRA hzA hkA hSA => ?_)
  · obtain ⟨ht, rfl⟩ := hpx
    refine vx_catch (name := "java/lang/IndexOutOfBoundsException") hown [] ⟨0, 7, 10, 33⟩ [] (by rw [htab]; rfl) (fun z hz => nomatch hz) (by decide) (by decide) (hts _ ct_L_ofPilot_33) (va_Nw.use rfl (hG.1.2.2.2.2.2.2.2.2.2.2.1 (xIO, xIO) (by decide))) hcx hvx hclx ?_
    refine lv_astore (lv' := [(4, .ref q9), (0, .ref (g 0 0)), (1, .int (zI k)), (2, .int (zI w))]) hx hb dL_ofPilot_10 hl (by decide) rfl (fun ls hl => ?_)
    refine z_sipush hx hb dL_ofPilot_12 (by decide +kernel) ?_
    exact vx_ret (W.iret hx hb hr (z_endL (P := zLP D cO A eE g σ (zth_ofP σ k w) (zan_ofP σ k w) (-7100) (0) (0) (σ)) (v := some (.int (zI (-7100)))) ⟨-7100, rfl, ⟨fun z => by omega, fun z => by omega, fun z => by omega, fun z => by omega⟩, g, rfl, by rw [if_neg (by omega)]; exact hRx⟩ hSx) hSx.2.2 dL_ofPilot_15)
  obtain ⟨⟨e1, e2, e3⟩, e4⟩ := hpA
  rw [e2]
  refine lv_istore_n (lv' := [(3, .int (zI (zan_ofP σ k w))), (0, .ref (g 0 0)), (1, .int (zI k)), (2, .int (zI w))]) hx hb dL_ofPilot_6 rfl hl (by decide) rfl (fun ls hl => ?_)
  refine lv_goto (tgt := 16) hx hb dL_ofPilot_7 (by decide) ?_
  refine lv_iload_n hx hb dL_ofPilot_16 rfl (lv_at hl 0 rfl) ?_
  exact vx_ret (W.iret hx hb hr (z_endL (P := zLP D cO A eE g σ (zth_ofP σ k w) (zan_ofP σ k w) (-7100) (0) (0) (σ)) (v := some (.int (zI (zan_ofP σ k w)))) ⟨zan_ofP σ k w, rfl, ⟨fun z => rfl, fun z => by omega, fun z => by omega, fun z => by omega⟩, g', e4, by rw [if_pos e1, ← e3]; exact hRA⟩ hSA) hSA.2.2 dL_ofPilot_17)

theorem ct_L_count_14 : Cond.classLink RL 14 "java/lang/IllegalArgumentException" ∈ wsL_count := by decide +kernel
set_option maxRecDepth 100000 in
set_option maxHeartbeats 4000000 in
theorem c_L_count (l : Launch) (hfl : l.stackTraces = false) (D : va_G) (cI cO cL : ClassId) (A : Nat → Prop) (eE mi : Nat) (sa : Nat → Nat) (g : zG) (σ : zT) (H0 : Heap) (hR : RX D cO A eE g σ H0) (x0 : Nat) (hx0 : g 0 0 = x0) (h : zAll σ) (w : Int) (hA : (-2147483648 ≤ w ∧ w < 2147483648)) : zLM l yL_count wsL_count ({ frames := 8, cells := 1, slots := 6, locals := 125 }) D cI cO cL A eE mi sa [.ref x0, .int (zI w)] H0 (zLP D cO A eE g σ (zth_count w) (zan_count σ w) (-7200) (0) (0) (σ)) := by
  subst hx0
  refine vx_ofWH (cc := cL_count) (maxL := 4) (ret := (some .int)) (hh := [(0, 6, 9, 14)]) (by decide) rfl ?_
  intro p e s m args below meth c s₁ B hml hv
  obtain ⟨rfl, hH, hG⟩ := hv
  subst hH
  have hK := hG.1.k
  have hx := B.exec
  have hb := B.bytes
  have hr := B.returns
  have hts := atoms_spec (ws := wsL_count) B.pre
  have hown : s.vm.findClass RL = some m.cls := findClass_of_methodNamed B.named
  have hlocks := B.notSynchronized
  have htab := vx_table (x := yL_count) B (hts _ List.mem_cons_self)
  have hl := lv_entry ([.ref (g 0 0), .int (zI w)]) (n := 4) (Nat.le_of_ble_eq_true rfl)
  rw [lg_entry_eq]
  generalize (lg_sl ([.ref (g 0 0), .int (zI w)]) ++ List.replicate (4 - (lg_sl ([.ref (g 0 0), .int (zI w)])).length) Slot.unset).toArray = ls at hl ⊢
  have hl : lv_has ls 4 [(0, .ref (g 0 0)), (1, .int (zI w))] := hl
  refine lv_aload_n hx hb dL_count_0 rfl (lv_at hl 0 rfl) ?_
  refine lv_iload_n hx hb dL_count_1 rfl (lv_at hl 1 rfl) ?_
  refine z_xmV (As := [.int (zI w)]) (rest := []) ⟨hx, hb, hml, hown, hts⟩ (c_X4_count l hfl D cI cO cL A eE mi sa g σ s.heap hR w h.1 h.2.1 hA) (cwV 1 hts gL_count_X4_count rfl rfl rfl (by decide +kernel) ⟨(Nat.le_of_ble_eq_true rfl), (Nat.le_of_ble_eq_true rfl)⟩) hG.1 va_S.rf (z_recv hK hR.x rfl) rfl hl.1 rfl (Nat.le_of_ble_eq_true rfl) dL_count_2 ⟨(Nat.le_of_ble_eq_true rfl), (Nat.le_of_ble_eq_true rfl)⟩ (fun E ce q9 H1 locs1 hpx hRx hzx hkx hSx hcx hvx hclx => ?_) (fun rv σ' g' HA locsA hpA hRA hzA hkA hSA => ?_)
  · obtain ⟨ht, rfl⟩ := hpx
    refine vx_catch (name := "java/lang/IllegalArgumentException") hown [] ⟨0, 6, 9, 14⟩ [] (by rw [htab]; rfl) (fun z hz => nomatch hz) (by decide) (by decide) (hts _ ct_L_count_14) (va_Nw.use rfl (hG.1.2.2.2.2.2.2.2.2.2.2.1 (xIA, xIA) (by decide))) hcx hvx hclx ?_
    refine lv_astore_n (lv' := [(3, .ref q9), (0, .ref (g 0 0)), (1, .int (zI w))]) hx hb dL_count_9 rfl hl (by decide) rfl (fun ls hl => ?_)
    refine z_sipush hx hb dL_count_10 (by decide +kernel) ?_
    exact vx_ret (W.iret hx hb hr (z_endL (P := zLP D cO A eE g σ (zth_count w) (zan_count σ w) (-7200) (0) (0) (σ)) (v := some (.int (zI (-7200)))) ⟨-7200, rfl, ⟨fun z => by omega, fun z => by omega, fun z => by omega, fun z => by omega⟩, g, rfl, by rw [if_neg (by omega)]; exact hRx⟩ hSx) hSx.2.2 dL_count_13)
  obtain ⟨⟨e1, e2, e3⟩, e4⟩ := hpA
  rw [e2]
  refine lv_istore_n (lv' := [(2, .int (zI (zan_count σ w))), (0, .ref (g 0 0)), (1, .int (zI w))]) hx hb dL_count_5 rfl hl (by decide) rfl (fun ls hl => ?_)
  refine lv_goto (tgt := 14) hx hb dL_count_6 (by decide) ?_
  refine lv_iload_n hx hb dL_count_14 rfl (lv_at hl 0 rfl) ?_
  exact vx_ret (W.iret hx hb hr (z_endL (P := zLP D cO A eE g σ (zth_count w) (zan_count σ w) (-7200) (0) (0) (σ)) (v := some (.int (zI (zan_count σ w)))) ⟨zan_count σ w, rfl, ⟨fun z => rfl, fun z => by omega, fun z => by omega, fun z => by omega⟩, g', e4, by rw [if_pos e1, ← e3]; exact hRA⟩ hSA) hSA.2.2 dL_count_15)
