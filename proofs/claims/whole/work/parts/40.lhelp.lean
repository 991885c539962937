/-! the law's helpers: a call of the class, its throw as a number, its answer in a cell of longs -/
def xNcs : List (String × String) := [(xIA, xIS), (xIA, xIO), (xIS, xIA), (xIS, xIO), (xIO, xIA), (xIO, xIS)]
def GL (D : va_G) (cI cO cL : ClassId) (A : Nat → Prop) (eE mi : Nat) (sa : Nat → Nat) (U : State) : Prop := GK D cI cO cL A eE mi sa U ∧ ∀ q ∈ xNcs, va_Nc q.1 q.2 U
theorem GL.same {D : va_G} {cI cO cL : ClassId} {A : Nat → Prop} {eE mi : Nat} {sa : Nat → Nat} {u U : State} (hv : u.vm = U.vm) (hh : u.heap = U.heap) (h : GL D cI cO cL A eE mi sa u) : GL D cI cO cL A eE mi sa U := ⟨GK.same hv hh h.1, fun q hq => (h.2 q hq).moved (by rw [hv]; exact Vm.Alike.refl _)⟩
theorem GL.warm {D : va_G} {cI cO cL : ClassId} {A : Nat → Prop} {eE mi : Nat} {sa : Nat → Nat} {u U : State} (hW : u.WarmedH U.vm) (hz : u.heap.size ≤ U.heap.size) (hk : ∀ q : Nat, q < u.heap.size → ¬ A q → U.heap[q]? = u.heap[q]?) (h : GL D cI cO cL A eE mi sa u) : GL D cI cO cL A eE mi sa U := ⟨GK.warm hW hz hk h.1, fun q hq => (h.2 q hq).moved hW.alike⟩
abbrev zOut (cL : ClassId) (f : Nat → Int64) : va_E := .inl (cL, 1, .inr (.inl f))
def zLP (D : va_G) (cO cL : ClassId) (A : Nat → Prop) (eE o : Nat) (g : zG) (σ : zT) (th : Int) (st : zT) (po : (Nat → Int64) → Prop) (r : Option Value) (H : Heap) : Prop := r = some (.int (zI th)) ∧ (∃ g' : zG, g' 0 0 = g 0 0 ∧ RX D cO A eE g' (if th = 0 then st else σ) H) ∧ ∃ f : Nat → Int64, va_at D vwCl (o, zOut cL f) H ∧ po f
def zLM (l : Launch) (y : MethodName) (ws : List Cond) (rm : Room) (D : va_G) (cI cO cL : ClassId) (A : Nat → Prop) (eE mi : Nat) (sa : Nat → Nat) (o : Nat) (av : List Value) (H0 : Heap) (P : Option Value → Heap → Prop) : Prop :=
  vx_Met l y ws rm (va_Pc av (fun U => U.heap = H0 ∧ GL D cI cO cL A eE mi sa U)) (fun _ s0 o1 t => (∃ r, o1 = .returned r ∧ P r t.heap) ∧ va_F (fun q => A q ∨ q = o) s0 t) (fun _ _ _ => False) rm.cells rm.slots (fun q => A q ∨ q = o)
theorem z_endL {A : Nat → Prop} {o : Nat} {s : State} {H : Heap} {locs : List Loc} {P : Option Value → Heap → Prop} {v : Option Value} (h : P v H) (hS : va_S (fun q => A q ∨ q = o) s.heap H locs) : ∀ t : State, t.heap = H → s.WarmedH t.vm → (∃ r, Outcome.returned v = .returned r ∧ P r t.heap) ∧ va_F (fun q => A q ∨ q = o) s t := fun t ht _ => ⟨⟨v, rfl, by rw [ht]; exact h⟩, z_F hS ht⟩

theorem ct_L_tide_13 : Cond.classLink RL 13 "java/lang/IllegalArgumentException" ∈ wsL_tide := by decide +kernel
set_option maxRecDepth 100000 in
set_option maxHeartbeats 4000000 in
theorem c_L_tide (l : Launch) (hfl : l.stackTraces = false) (D : va_G) (cI cO cL : ClassId) (A : Nat → Prop) (eE mi : Nat) (sa : Nat → Nat) (o : Nat) (g : zG) (σ : zT) (H0 : Heap) (f0 : Nat → Int64) (hR : RX D cO A eE g σ H0) (h : zAll σ) (hO : va_at D vwCl (o, zOut cL f0) H0) (hAo : ¬ A o) (d r : Int) (hA : (-2147483648 ≤ d ∧ d < 2147483648) ∧ (-2147483648 ≤ r ∧ r < 2147483648)) : zLM l yL_tide wsL_tide ({ frames := 8, cells := 2, slots := 12, locals := 126 }) D cI cO cL A eE mi sa o [.ref (g 0 0), .int (zI d), .int (zI r)] H0 (zLP D cO cL A eE o g σ (zth_tide d r) (zst_tide σ d r) (fun _ => True)) := by
  refine vx_ofWH (cc := cL_tide) (maxL := 4) (ret := (some .int)) (hh := [(0, 6, 9, 13)]) (by decide) rfl ?_
  intro p e s m args below meth c s₁ B hml hv
  obtain ⟨rfl, hH, hG⟩ := hv
  subst hH
  have hK := hG.1.k
  have hx := B.exec
  have hb := B.bytes
  have hr := B.returns
  have hts := atoms_spec (ws := wsL_tide) B.pre
  have hown : s.vm.findClass RL = some m.cls := findClass_of_methodNamed B.named
  have hlocks := B.notSynchronized
  have htab := vx_table (x := yL_tide) B (hts _ List.mem_cons_self)
  have hl := lv_entry ([.ref (g 0 0), .int (zI d), .int (zI r)]) (n := 4) (Nat.le_of_ble_eq_true rfl)
  rw [lg_entry_eq]
  generalize (lg_sl ([.ref (g 0 0), .int (zI d), .int (zI r)]) ++ List.replicate (4 - (lg_sl ([.ref (g 0 0), .int (zI d), .int (zI r)])).length) Slot.unset).toArray = ls at hl ⊢
  have hl : lv_has ls 4 [(0, .ref (g 0 0)), (1, .int (zI d)), (2, .int (zI r))] := hl
  refine lv_aload_n hx hb dL_tide_0 rfl (lv_at hl 0 rfl) ?_
  refine lv_iload_n hx hb dL_tide_1 rfl (lv_at hl 1 rfl) ?_
  refine lv_iload_n hx hb dL_tide_2 rfl (lv_at hl 2 rfl) ?_
  refine z_xmV (As := [.int (zI d), .int (zI r)]) (rest := []) ⟨hx, hb, hml, hown, hts⟩ (c_X4_tide l hfl D cI cO cL A eE mi sa g σ s.heap hR d r h.1 hA) (cwV 2 hts gL_tide_X4_tide rfl rfl rfl (by decide +kernel) ⟨(Nat.le_of_ble_eq_true rfl), (Nat.le_of_ble_eq_true rfl)⟩) hG.1 va_S.rf (z_recv hK hR.x rfl) rfl hl.1 rfl (Nat.le_of_ble_eq_true rfl) dL_tide_3 ⟨(Nat.le_of_ble_eq_true rfl), (Nat.le_of_ble_eq_true rfl)⟩ (fun E ce q9 H1 locs1 hpx hRx hzx hkx hSx hcx hvx hclx => ?_) (fun rv σ' g' HA locsA hpA hRA hzA hkA hSA => ?_)
  · obtain ⟨ht, rfl⟩ := hpx
    refine vx_catch (name := "java/lang/IllegalArgumentException") hown [] ⟨0, 6, 9, 13⟩ [] (by rw [htab]; rfl) (fun z hz => nomatch hz) (by decide) (by decide) (hts _ ct_L_tide_13) (va_Nw.use rfl (hG.1.2.2.2.2.2.2.2.2.2.2.1 (xIA, xIA) (by decide))) hcx hvx hclx ?_
    refine lv_astore_n (lv' := [(3, .ref q9), (0, .ref (g 0 0)), (1, .int (zI d)), (2, .int (zI r))]) hx hb dL_tide_9 rfl hl (by decide) rfl (fun ls hl => ?_)
    refine z_iconst hx hb dL_tide_10 ?_
    exact vx_ret (W.iret hx hb hr (z_endL (P := zLP D cO cL A eE o g σ (zth_tide d r) (zst_tide σ d r) (fun _ => True)) (v := some (.int (zI 1))) ⟨by rw [ht], ⟨g, rfl, by rw [if_neg (by omega)]; exact hRx⟩, f0, hO.kept (hkx o (z_lt hO) hAo), trivial⟩ (z_Smono (fun q hq => Or.inl hq) hSx)) (fun q hq => Or.inl (hSx.2.2 q hq)) dL_tide_11)
  obtain ⟨⟨e1, e2, e3⟩, e4⟩ := hpA
  rw [e2]
  refine lv_goto (tgt := 12) hx hb dL_tide_6 (by decide) ?_
  refine z_iconst hx hb dL_tide_12 ?_
  exact vx_ret (W.iret hx hb hr (z_endL (P := zLP D cO cL A eE o g σ (zth_tide d r) (zst_tide σ d r) (fun _ => True)) (v := some (.int (zI 0))) ⟨by rw [e1], ⟨g', e4, by rw [if_pos e1, ← e3]; exact hRA⟩, f0, (hO.kept (hkA o (z_lt hO) hAo)), trivial⟩ (z_Smono (fun q hq => Or.inl hq) hSA)) (fun q hq => Or.inl (hSA.2.2 q hq)) dL_tide_13)

theorem ct_L_tugs_13 : Cond.classLink RL 13 "java/lang/IllegalArgumentException" ∈ wsL_tugs := by decide +kernel
set_option maxRecDepth 100000 in
set_option maxHeartbeats 4000000 in
theorem c_L_tugs (l : Launch) (hfl : l.stackTraces = false) (D : va_G) (cI cO cL : ClassId) (A : Nat → Prop) (eE mi : Nat) (sa : Nat → Nat) (o : Nat) (g : zG) (σ : zT) (H0 : Heap) (f0 : Nat → Int64) (hR : RX D cO A eE g σ H0) (h : zAll σ) (hO : va_at D vwCl (o, zOut cL f0) H0) (hAo : ¬ A o) (n : Int) (hA : (-2147483648 ≤ n ∧ n < 2147483648)) : zLM l yL_tugs wsL_tugs ({ frames := 8, cells := 1, slots := 6, locals := 126 }) D cI cO cL A eE mi sa o [.ref (g 0 0), .int (zI n), .ref o] H0 (zLP D cO cL A eE o g σ (zth_tugs n) (zst_tugs σ n) (fun f => zth_tugs n = 0 → f 0 = (zI (zan_tugs σ)).toInt64)) := by
  refine vx_ofWH (cc := cL_tugs) (maxL := 4) (ret := (some .int)) (hh := [(0, 9, 12, 13)]) (by decide) rfl ?_
  intro p e s m args below meth c s₁ B hml hv
  obtain ⟨rfl, hH, hG⟩ := hv
  subst hH
  have hK := hG.1.k
  have hx := B.exec
  have hb := B.bytes
  have hr := B.returns
  have hts := atoms_spec (ws := wsL_tugs) B.pre
  have hown : s.vm.findClass RL = some m.cls := findClass_of_methodNamed B.named
  have hlocks := B.notSynchronized
  have htab := vx_table (x := yL_tugs) B (hts _ List.mem_cons_self)
  have hl := lv_entry ([.ref (g 0 0), .int (zI n), .ref o]) (n := 4) (Nat.le_of_ble_eq_true rfl)
  rw [lg_entry_eq]
  generalize (lg_sl ([.ref (g 0 0), .int (zI n), .ref o]) ++ List.replicate (4 - (lg_sl ([.ref (g 0 0), .int (zI n), .ref o])).length) Slot.unset).toArray = ls at hl ⊢
  have hl : lv_has ls 4 [(0, .ref (g 0 0)), (1, .int (zI n)), (2, .ref o)] := hl
  refine lv_aload_n hx hb dL_tugs_0 rfl (lv_at hl 2 rfl) ?_
  refine z_iconst hx hb dL_tugs_1 ?_
  refine lv_aload_n hx hb dL_tugs_2 rfl (lv_at hl 0 rfl) ?_
  refine lv_iload_n hx hb dL_tugs_3 rfl (lv_at hl 1 rfl) ?_
  refine z_xmV (As := [.int (zI n)]) (rest := [.int (zI 0), .ref o]) ⟨hx, hb, hml, hown, hts⟩ (c_X4_tugs l hfl D cI cO cL A eE mi sa g σ s.heap hR n h.1 hA) (cwV 1 hts gL_tugs_X4_tugs rfl rfl rfl (by decide +kernel) ⟨(Nat.le_of_ble_eq_true rfl), (Nat.le_of_ble_eq_true rfl)⟩) hG.1 va_S.rf (z_recv hK hR.x rfl) rfl hl.1 rfl (Nat.le_of_ble_eq_true rfl) dL_tugs_4 ⟨(Nat.le_of_ble_eq_true rfl), (Nat.le_of_ble_eq_true rfl)⟩ (fun E ce q9 H1 locs1 hpx hRx hzx hkx hSx hcx hvx hclx => ?_) (fun rv σ' g' HA locsA hpA hRA hzA hkA hSA => ?_)
  · obtain ⟨ht, rfl⟩ := hpx
    refine vx_catch (name := "java/lang/IllegalArgumentException") hown [] ⟨0, 9, 12, 13⟩ [] (by rw [htab]; rfl) (fun z hz => nomatch hz) (by decide) (by decide) (hts _ ct_L_tugs_13) (va_Nw.use rfl (hG.1.2.2.2.2.2.2.2.2.2.2.1 (xIA, xIA) (by decide))) hcx hvx hclx ?_
    refine lv_astore_n (lv' := [(3, .ref q9), (0, .ref (g 0 0)), (1, .int (zI n)), (2, .ref o)]) hx hb dL_tugs_12 rfl hl (by decide) rfl (fun ls hl => ?_)
    refine z_iconst hx hb dL_tugs_13 ?_
    exact vx_ret (W.iret hx hb hr (z_endL (P := zLP D cO cL A eE o g σ (zth_tugs n) (zst_tugs σ n) (fun f => zth_tugs n = 0 → f 0 = (zI (zan_tugs σ)).toInt64)) (v := some (.int (zI 1))) ⟨by rw [ht], ⟨g, rfl, by rw [if_neg (by omega)]; exact hRx⟩, f0, hO.kept (hkx o (z_lt hO) hAo), fun z => by omega⟩ (z_Smono (fun q hq => Or.inl hq) hSx)) (fun q hq => Or.inl (hSx.2.2 q hq)) dL_tugs_14)
  obtain ⟨⟨e1, e2, e3⟩, e4⟩ := hpA
  rw [e2]
  refine lv_i2l hx hb dL_tugs_7 rfl ?_
  refine z_last (A := fun q => A q ∨ q = o) hx hb hK 2 (hO.kept (hkA o (z_lt hO) hAo)) rfl (Or.inr rfl) (z_Smono (fun q hq => Or.inl hq) hSA) (by decide) dL_tugs_8 (fun H2 locs2 hO2 hz2 ho2 hS2 => ?_)
  refine lv_goto (tgt := 15) hx hb dL_tugs_9 (by decide) ?_
  refine z_iconst hx hb dL_tugs_15 ?_
  exact vx_ret (W.iret hx hb hr (z_endL (P := zLP D cO cL A eE o g σ (zth_tugs n) (zst_tugs σ n) (fun f => zth_tugs n = 0 → f 0 = (zI (zan_tugs σ)).toInt64)) (v := some (.int (zI 0))) ⟨by rw [e1], ⟨g', e4, by rw [if_pos e1, ← e3]; exact (hRA.kept (fun q _ hq => ho2 q (fun z => hAo (by rw [← z]; exact hq))))⟩, _, hO2, fun _ => by simp [vp_updL]⟩ hS2) hS2.2.2 dL_tugs_16)

theorem ct_L_ship_13 : Cond.classLink RL 13 "java/lang/IllegalArgumentException" ∈ wsL_ship := by decide +kernel
theorem ct_L_ship_23 : Cond.classLink RL 23 "java/lang/IllegalStateException" ∈ wsL_ship := by decide +kernel
set_option maxRecDepth 100000 in
set_option maxHeartbeats 4000000 in
theorem c_L_ship (l : Launch) (hfl : l.stackTraces = false) (D : va_G) (cI cO cL : ClassId) (A : Nat → Prop) (eE mi : Nat) (sa : Nat → Nat) (o : Nat) (g : zG) (σ : zT) (H0 : Heap) (f0 : Nat → Int64) (hR : RX D cO A eE g σ H0) (h : zAll σ) (hO : va_at D vwCl (o, zOut cL f0) H0) (hAo : ¬ A o) (d t n gg : Int) (hA : (-2147483648 ≤ d ∧ d < 2147483648) ∧ (-2147483648 ≤ t ∧ t < 2147483648) ∧ (-2147483648 ≤ n ∧ n < 2147483648) ∧ (-2147483648 ≤ gg ∧ gg < 2147483648)) : zLM l yL_ship wsL_ship ({ frames := 8, cells := 7, slots := 96, locals := 246 }) D cI cO cL A eE mi sa o [.ref (g 0 0), .int (zI d), .int (zI t), .int (zI n), .int (zI gg), .ref o] H0 (zLP D cO cL A eE o g σ (zth_ship σ d t n gg) (zst_ship σ d t n gg) (fun f => zth_ship σ d t n gg = 0 → f 0 = (zI (zan_ship σ)).toInt64)) := by
  refine vx_ofWH (cc := cL_ship) (maxL := 7) (ret := (some .int)) (hh := [(0, 14, 17, 13), (0, 14, 21, 23)]) (by decide) rfl ?_
  intro p e s m args below meth c s₁ B hml hv
  obtain ⟨rfl, hH, hG⟩ := hv
  subst hH
  have hK := hG.1.k
  have hx := B.exec
  have hb := B.bytes
  have hr := B.returns
  have hts := atoms_spec (ws := wsL_ship) B.pre
  have hown : s.vm.findClass RL = some m.cls := findClass_of_methodNamed B.named
  have hlocks := B.notSynchronized
  have htab := vx_table (x := yL_ship) B (hts _ List.mem_cons_self)
  have hl := lv_entry ([.ref (g 0 0), .int (zI d), .int (zI t), .int (zI n), .int (zI gg), .ref o]) (n := 7) (Nat.le_of_ble_eq_true rfl)
  rw [lg_entry_eq]
  generalize (lg_sl ([.ref (g 0 0), .int (zI d), .int (zI t), .int (zI n), .int (zI gg), .ref o]) ++ List.replicate (7 - (lg_sl ([.ref (g 0 0), .int (zI d), .int (zI t), .int (zI n), .int (zI gg), .ref o])).length) Slot.unset).toArray = ls at hl ⊢
  have hl : lv_has ls 7 [(0, .ref (g 0 0)), (1, .int (zI d)), (2, .int (zI t)), (3, .int (zI n)), (4, .int (zI gg)), (5, .ref o)] := hl
  refine lv_aload hx hb dL_ship_0 (lv_at hl 5 rfl) ?_
  refine z_iconst hx hb dL_ship_2 ?_
  refine lv_aload_n hx hb dL_ship_3 rfl (lv_at hl 0 rfl) ?_
  refine lv_iload_n hx hb dL_ship_4 rfl (lv_at hl 1 rfl) ?_
  refine lv_iload_n hx hb dL_ship_5 rfl (lv_at hl 2 rfl) ?_
  refine lv_iload_n hx hb dL_ship_6 rfl (lv_at hl 3 rfl) ?_
  refine lv_iload hx hb dL_ship_7 (lv_at hl 4 rfl) ?_
  refine z_xmV (As := [.int (zI d), .int (zI t), .int (zI n), .int (zI gg)]) (rest := [.int (zI 0), .ref o]) ⟨hx, hb, hml, hown, hts⟩ (c_X4_ship l hfl D cI cO cL A eE mi sa g σ s.heap hR d t n gg h.1 (h.2.2.2.1 _ (Int.le_refl _)) hA) (cwV 4 hts gL_ship_X4_ship rfl rfl rfl (by decide +kernel) ⟨(Nat.le_of_ble_eq_true rfl), (Nat.le_of_ble_eq_true rfl)⟩) hG.1 va_S.rf (z_recv hK hR.x rfl) rfl hl.1 rfl (Nat.le_of_ble_eq_true rfl) dL_ship_9 ⟨(Nat.le_of_ble_eq_true rfl), (Nat.le_of_ble_eq_true rfl)⟩ (fun E ce q9 H1 locs1 hpx hRx hzx hkx hSx hcx hvx hclx => ?_) (fun rv σ' g' HA locsA hpA hRA hzA hkA hSA => ?_)
  · rcases hpx with ⟨ht, rfl⟩ | ⟨ht, rfl⟩
    · refine vx_catch (name := "java/lang/IllegalArgumentException") hown [] ⟨0, 14, 17, 13⟩ [⟨0, 14, 21, 23⟩] (by rw [htab]; rfl) (fun z hz => nomatch hz) (by decide) (by decide) (hts _ ct_L_ship_13) (va_Nw.use rfl (hG.1.2.2.2.2.2.2.2.2.2.2.1 (xIA, xIA) (by decide))) hcx hvx hclx ?_
      refine lv_astore (lv' := [(6, .ref q9), (0, .ref (g 0 0)), (1, .int (zI d)), (2, .int (zI t)), (3, .int (zI n)), (4, .int (zI gg)), (5, .ref o)]) hx hb dL_ship_17 hl (by decide) rfl (fun ls hl => ?_)
      refine z_iconst hx hb dL_ship_19 ?_
      exact vx_ret (W.iret hx hb hr (z_endL (P := zLP D cO cL A eE o g σ (zth_ship σ d t n gg) (zst_ship σ d t n gg) (fun f => zth_ship σ d t n gg = 0 → f 0 = (zI (zan_ship σ)).toInt64)) (v := some (.int (zI 1))) ⟨by rw [ht], ⟨g, rfl, by rw [if_neg (by omega)]; exact hRx⟩, f0, hO.kept (hkx o (z_lt hO) hAo), fun z => by omega⟩ (z_Smono (fun q hq => Or.inl hq) hSx)) (fun q hq => Or.inl (hSx.2.2 q hq)) dL_ship_20)
    · refine vx_catch (name := "java/lang/IllegalStateException") hown [⟨0, 14, 17, 13⟩] ⟨0, 14, 21, 23⟩ [] (by rw [htab]; rfl) (fun z hz => by
          simp only [List.mem_cons, List.not_mem_nil, or_false] at hz
          subst hz; exact Or.inr ⟨by decide, "java/lang/IllegalArgumentException", hts _ ct_L_ship_13, hG.2 (xIS, xIA) (by decide)⟩) (by decide) (by decide) (hts _ ct_L_ship_23) (va_Nw.use rfl (hG.1.2.2.2.2.2.2.2.2.2.2.1 (xIS, xIS) (by decide))) hcx hvx hclx ?_
      refine lv_astore (lv' := [(6, .ref q9), (0, .ref (g 0 0)), (1, .int (zI d)), (2, .int (zI t)), (3, .int (zI n)), (4, .int (zI gg)), (5, .ref o)]) hx hb dL_ship_21 hl (by decide) rfl (fun ls hl => ?_)
      refine z_iconst hx hb dL_ship_23 ?_
      exact vx_ret (W.iret hx hb hr (z_endL (P := zLP D cO cL A eE o g σ (zth_ship σ d t n gg) (zst_ship σ d t n gg) (fun f => zth_ship σ d t n gg = 0 → f 0 = (zI (zan_ship σ)).toInt64)) (v := some (.int (zI 2))) ⟨by rw [ht], ⟨g, rfl, by rw [if_neg (by omega)]; exact hRx⟩, f0, hO.kept (hkx o (z_lt hO) hAo), fun z => by omega⟩ (z_Smono (fun q hq => Or.inl hq) hSx)) (fun q hq => Or.inl (hSx.2.2 q hq)) dL_ship_24)
  obtain ⟨⟨e1, e2, e3⟩, e4⟩ := hpA
  rw [e2]
  refine lv_i2l hx hb dL_ship_12 rfl ?_
  refine z_last (A := fun q => A q ∨ q = o) hx hb hK 2 (hO.kept (hkA o (z_lt hO) hAo)) rfl (Or.inr rfl) (z_Smono (fun q hq => Or.inl hq) hSA) (by decide) dL_ship_13 (fun H2 locs2 hO2 hz2 ho2 hS2 => ?_)
  refine lv_goto (tgt := 25) hx hb dL_ship_14 (by decide) ?_
  refine z_iconst hx hb dL_ship_25 ?_
  exact vx_ret (W.iret hx hb hr (z_endL (P := zLP D cO cL A eE o g σ (zth_ship σ d t n gg) (zst_ship σ d t n gg) (fun f => zth_ship σ d t n gg = 0 → f 0 = (zI (zan_ship σ)).toInt64)) (v := some (.int (zI 0))) ⟨by rw [e1], ⟨g', e4, by rw [if_pos e1, ← e3]; exact (hRA.kept (fun q _ hq => ho2 q (fun z => hAo (by rw [← z]; exact hq))))⟩, _, hO2, fun _ => by simp [vp_updL]⟩ hS2) hS2.2.2 dL_ship_26)

theorem ct_L_pilot_13 : Cond.classLink RL 13 "java/lang/IllegalArgumentException" ∈ wsL_pilot := by decide +kernel
theorem ct_L_pilot_23 : Cond.classLink RL 23 "java/lang/IllegalStateException" ∈ wsL_pilot := by decide +kernel
set_option maxRecDepth 100000 in
set_option maxHeartbeats 4000000 in
theorem c_L_pilot (l : Launch) (hfl : l.stackTraces = false) (D : va_G) (cI cO cL : ClassId) (A : Nat → Prop) (eE mi : Nat) (sa : Nat → Nat) (o : Nat) (g : zG) (σ : zT) (H0 : Heap) (f0 : Nat → Int64) (hR : RX D cO A eE g σ H0) (h : zAll σ) (hO : va_at D vwCl (o, zOut cL f0) H0) (hAo : ¬ A o) (a b : Int) (hA : (-2147483648 ≤ a ∧ a < 2147483648) ∧ (-2147483648 ≤ b ∧ b < 2147483648)) : zLM l yL_pilot wsL_pilot ({ frames := 8, cells := 5, slots := 83, locals := 244 }) D cI cO cL A eE mi sa o [.ref (g 0 0), .int (zI a), .int (zI b), .ref o] H0 (zLP D cO cL A eE o g σ (zth_pilot σ a b) (zst_pilot σ a b) (fun f => zth_pilot σ a b = 0 → f 0 = (zI (zan_pilot σ)).toInt64)) := by
  refine vx_ofWH (cc := cL_pilot) (maxL := 5) (ret := (some .int)) (hh := [(0, 10, 13, 13), (0, 10, 17, 23)]) (by decide) rfl ?_
  intro p e s m args below meth c s₁ B hml hv
  obtain ⟨rfl, hH, hG⟩ := hv
  subst hH
  have hK := hG.1.k
  have hx := B.exec
  have hb := B.bytes
  have hr := B.returns
  have hts := atoms_spec (ws := wsL_pilot) B.pre
  have hown : s.vm.findClass RL = some m.cls := findClass_of_methodNamed B.named
  have hlocks := B.notSynchronized
  have htab := vx_table (x := yL_pilot) B (hts _ List.mem_cons_self)
  have hl := lv_entry ([.ref (g 0 0), .int (zI a), .int (zI b), .ref o]) (n := 5) (Nat.le_of_ble_eq_true rfl)
  rw [lg_entry_eq]
  generalize (lg_sl ([.ref (g 0 0), .int (zI a), .int (zI b), .ref o]) ++ List.replicate (5 - (lg_sl ([.ref (g 0 0), .int (zI a), .int (zI b), .ref o])).length) Slot.unset).toArray = ls at hl ⊢
  have hl : lv_has ls 5 [(0, .ref (g 0 0)), (1, .int (zI a)), (2, .int (zI b)), (3, .ref o)] := hl
  refine lv_aload_n hx hb dL_pilot_0 rfl (lv_at hl 3 rfl) ?_
  refine z_iconst hx hb dL_pilot_1 ?_
  refine lv_aload_n hx hb dL_pilot_2 rfl (lv_at hl 0 rfl) ?_
  refine lv_iload_n hx hb dL_pilot_3 rfl (lv_at hl 1 rfl) ?_
  refine lv_iload_n hx hb dL_pilot_4 rfl (lv_at hl 2 rfl) ?_
  refine z_xmV (As := [.int (zI a), .int (zI b)]) (rest := [.int (zI 0), .ref o]) ⟨hx, hb, hml, hown, hts⟩ (c_X4_pilot l hfl D cI cO cL A eE mi sa g σ s.heap hR a b h.1 (h.2.2.2.2.1 _ (Int.le_refl _)) hA) (cwV 2 hts gL_pilot_X4_pilot rfl rfl rfl (by decide +kernel) ⟨(Nat.le_of_ble_eq_true rfl), (Nat.le_of_ble_eq_true rfl)⟩) hG.1 va_S.rf (z_recv hK hR.x rfl) rfl hl.1 rfl (Nat.le_of_ble_eq_true rfl) dL_pilot_5 ⟨(Nat.le_of_ble_eq_true rfl), (Nat.le_of_ble_eq_true rfl)⟩ (fun E ce q9 H1 locs1 hpx hRx hzx hkx hSx hcx hvx hclx => ?_) (fun rv σ' g' HA locsA hpA hRA hzA hkA hSA => ?_)
  · rcases hpx with ⟨ht, rfl⟩ | ⟨ht, rfl⟩
    · refine vx_catch (name := "java/lang/IllegalArgumentException") hown [] ⟨0, 10, 13, 13⟩ [⟨0, 10, 17, 23⟩] (by rw [htab]; rfl) (fun z hz => nomatch hz) (by decide) (by decide) (hts _ ct_L_pilot_13) (va_Nw.use rfl (hG.1.2.2.2.2.2.2.2.2.2.2.1 (xIA, xIA) (by decide))) hcx hvx hclx ?_
      refine lv_astore (lv' := [(4, .ref q9), (0, .ref (g 0 0)), (1, .int (zI a)), (2, .int (zI b)), (3, .ref o)]) hx hb dL_pilot_13 hl (by decide) rfl (fun ls hl => ?_)
      refine z_iconst hx hb dL_pilot_15 ?_
      exact vx_ret (W.iret hx hb hr (z_endL (P := zLP D cO cL A eE o g σ (zth_pilot σ a b) (zst_pilot σ a b) (fun f => zth_pilot σ a b = 0 → f 0 = (zI (zan_pilot σ)).toInt64)) (v := some (.int (zI 1))) ⟨by rw [ht], ⟨g, rfl, by rw [if_neg (by omega)]; exact hRx⟩, f0, hO.kept (hkx o (z_lt hO) hAo), fun z => by omega⟩ (z_Smono (fun q hq => Or.inl hq) hSx)) (fun q hq => Or.inl (hSx.2.2 q hq)) dL_pilot_16)
    · refine vx_catch (name := "java/lang/IllegalStateException") hown [⟨0, 10, 13, 13⟩] ⟨0, 10, 17, 23⟩ [] (by rw [htab]; rfl) (fun z hz => by
          simp only [List.mem_cons, List.not_mem_nil, or_false] at hz
          subst hz; exact Or.inr ⟨by decide, "java/lang/IllegalArgumentException", hts _ ct_L_pilot_13, hG.2 (xIS, xIA) (by decide)⟩) (by decide) (by decide) (hts _ ct_L_pilot_23) (va_Nw.use rfl (hG.1.2.2.2.2.2.2.2.2.2.2.1 (xIS, xIS) (by decide))) hcx hvx hclx ?_
      refine lv_astore (lv' := [(4, .ref q9), (0, .ref (g 0 0)), (1, .int (zI a)), (2, .int (zI b)), (3, .ref o)]) hx hb dL_pilot_17 hl (by decide) rfl (fun ls hl => ?_)
      refine z_iconst hx hb dL_pilot_19 ?_
      exact vx_ret (W.iret hx hb hr (z_endL (P := zLP D cO cL A eE o g σ (zth_pilot σ a b) (zst_pilot σ a b) (fun f => zth_pilot σ a b = 0 → f 0 = (zI (zan_pilot σ)).toInt64)) (v := some (.int (zI 2))) ⟨by rw [ht], ⟨g, rfl, by rw [if_neg (by omega)]; exact hRx⟩, f0, hO.kept (hkx o (z_lt hO) hAo), fun z => by omega⟩ (z_Smono (fun q hq => Or.inl hq) hSx)) (fun q hq => Or.inl (hSx.2.2 q hq)) dL_pilot_20)
  obtain ⟨⟨e1, e2, e3⟩, e4⟩ := hpA
  rw [e2]
  refine lv_i2l hx hb dL_pilot_8 rfl ?_
  refine z_last (A := fun q => A q ∨ q = o) hx hb hK 2 (hO.kept (hkA o (z_lt hO) hAo)) rfl (Or.inr rfl) (z_Smono (fun q hq => Or.inl hq) hSA) (by decide) dL_pilot_9 (fun H2 locs2 hO2 hz2 ho2 hS2 => ?_)
  refine lv_goto (tgt := 21) hx hb dL_pilot_10 (by decide) ?_
  refine z_iconst hx hb dL_pilot_21 ?_
  exact vx_ret (W.iret hx hb hr (z_endL (P := zLP D cO cL A eE o g σ (zth_pilot σ a b) (zst_pilot σ a b) (fun f => zth_pilot σ a b = 0 → f 0 = (zI (zan_pilot σ)).toInt64)) (v := some (.int (zI 0))) ⟨by rw [e1], ⟨g', e4, by rw [if_pos e1, ← e3]; exact (hRA.kept (fun q _ hq => ho2 q (fun z => hAo (by rw [← z]; exact hq))))⟩, _, hO2, fun _ => by simp [vp_updL]⟩ hS2) hS2.2.2 dL_pilot_22)

theorem ct_L_call_32 : Cond.classLink RL 32 "java/lang/IndexOutOfBoundsException" ∈ wsL_call := by decide +kernel
theorem ct_L_call_13 : Cond.classLink RL 13 "java/lang/IllegalArgumentException" ∈ wsL_call := by decide +kernel
theorem ct_L_call_23 : Cond.classLink RL 23 "java/lang/IllegalStateException" ∈ wsL_call := by decide +kernel
set_option maxRecDepth 100000 in
set_option maxHeartbeats 4000000 in
theorem c_L_call (l : Launch) (hfl : l.stackTraces = false) (D : va_G) (cI cO cL : ClassId) (A : Nat → Prop) (eE mi : Nat) (sa : Nat → Nat) (o : Nat) (g : zG) (σ : zT) (H0 : Heap) (f0 : Nat → Int64) (hR : RX D cO A eE g σ H0) (h : zAll σ) (hO : va_at D vwCl (o, zOut cL f0) H0) (hAo : ¬ A o) (k w : Int) (hA : (-2147483648 ≤ k ∧ k < 2147483648) ∧ (-2147483648 ≤ w ∧ w < 2147483648)) : zLM l yL_call wsL_call ({ frames := 8, cells := 5, slots := 85, locals := 245 }) D cI cO cL A eE mi sa o [.ref (g 0 0), .int (zI k), .int (zI w), .ref o] H0 (zLP D cO cL A eE o g σ (zth_call σ k w) (zst_call σ k w) (fun f => zth_call σ k w = 0 → f 0 = (zI (zan_call σ)).toInt64)) := by
  refine vx_ofWH (cc := cL_call) (maxL := 5) (ret := (some .int)) (hh := [(0, 10, 13, 32), (0, 10, 17, 13), (0, 10, 21, 23)]) (by decide) rfl ?_
  intro p e s m args below meth c s₁ B hml hv
  obtain ⟨rfl, hH, hG⟩ := hv
  subst hH
  have hK := hG.1.k
  have hx := B.exec
  have hb := B.bytes
  have hr := B.returns
  have hts := atoms_spec (ws := wsL_call) B.pre
  have hown : s.vm.findClass RL = some m.cls := findClass_of_methodNamed B.named
  have hlocks := B.notSynchronized
  have htab := vx_table (x := yL_call) B (hts _ List.mem_cons_self)
  have hl := lv_entry ([.ref (g 0 0), .int (zI k), .int (zI w), .ref o]) (n := 5) (Nat.le_of_ble_eq_true rfl)
  rw [lg_entry_eq]
  generalize (lg_sl ([.ref (g 0 0), .int (zI k), .int (zI w), .ref o]) ++ List.replicate (5 - (lg_sl ([.ref (g 0 0), .int (zI k), .int (zI w), .ref o])).length) Slot.unset).toArray = ls at hl ⊢
  have hl : lv_has ls 5 [(0, .ref (g 0 0)), (1, .int (zI k)), (2, .int (zI w)), (3, .ref o)] := hl
  refine lv_aload_n hx hb dL_call_0 rfl (lv_at hl 3 rfl) ?_
  refine z_iconst hx hb dL_call_1 ?_
  refine lv_aload_n hx hb dL_call_2 rfl (lv_at hl 0 rfl) ?_
  refine lv_iload_n hx hb dL_call_3 rfl (lv_at hl 1 rfl) ?_
  refine lv_iload_n hx hb dL_call_4 rfl (lv_at hl 2 rfl) ?_
  refine z_xmV (As := [.int (zI k), .int (zI w)]) (rest := [.int (zI 0), .ref o]) ⟨hx, hb, hml, hown, hts⟩ (c_X4_call l hfl D cI cO cL A eE mi sa g σ s.heap hR k w h.1 (h.2.2.2.2.2 _ (Int.le_refl _)) hA) (cwV 2 hts gL_call_X4_call rfl rfl rfl (by decide +kernel) ⟨(Nat.le_of_ble_eq_true rfl), (Nat.le_of_ble_eq_true rfl)⟩) hG.1 va_S.rf (z_recv hK hR.x rfl) rfl hl.1 rfl (Nat.le_of_ble_eq_true rfl) dL_call_5 ⟨(Nat.le_of_ble_eq_true rfl), (Nat.le_of_ble_eq_true rfl)⟩ (fun E ce q9 H1 locs1 hpx hRx hzx hkx hSx hcx hvx hclx => ?_) (fun rv σ' g' HA locsA hpA hRA hzA hkA hSA => ?_)
  · rcases hpx with ⟨ht, rfl⟩ | ⟨ht, rfl⟩ | ⟨ht, rfl⟩
    · refine vx_catch (name := "java/lang/IndexOutOfBoundsException") hown [] ⟨0, 10, 13, 32⟩ [⟨0, 10, 17, 13⟩, ⟨0, 10, 21, 23⟩] (by rw [htab]; rfl) (fun z hz => nomatch hz) (by decide) (by decide) (hts _ ct_L_call_32) (va_Nw.use rfl (hG.1.2.2.2.2.2.2.2.2.2.2.1 (xIO, xIO) (by decide))) hcx hvx hclx ?_
      refine lv_astore (lv' := [(4, .ref q9), (0, .ref (g 0 0)), (1, .int (zI k)), (2, .int (zI w)), (3, .ref o)]) hx hb dL_call_13 hl (by decide) rfl (fun ls hl => ?_)
      refine z_iconst hx hb dL_call_15 ?_
      exact vx_ret (W.iret hx hb hr (z_endL (P := zLP D cO cL A eE o g σ (zth_call σ k w) (zst_call σ k w) (fun f => zth_call σ k w = 0 → f 0 = (zI (zan_call σ)).toInt64)) (v := some (.int (zI 1))) ⟨by rw [ht], ⟨g, rfl, by rw [if_neg (by omega)]; exact hRx⟩, f0, hO.kept (hkx o (z_lt hO) hAo), fun z => by omega⟩ (z_Smono (fun q hq => Or.inl hq) hSx)) (fun q hq => Or.inl (hSx.2.2 q hq)) dL_call_16)
    · refine vx_catch (name := "java/lang/IllegalArgumentException") hown [⟨0, 10, 13, 32⟩] ⟨0, 10, 17, 13⟩ [⟨0, 10, 21, 23⟩] (by rw [htab]; rfl) (fun z hz => by
          simp only [List.mem_cons, List.not_mem_nil, or_false] at hz
          subst hz; exact Or.inr ⟨by decide, "java/lang/IndexOutOfBoundsException", hts _ ct_L_call_32, hG.2 (xIA, xIO) (by decide)⟩) (by decide) (by decide) (hts _ ct_L_call_13) (va_Nw.use rfl (hG.1.2.2.2.2.2.2.2.2.2.2.1 (xIA, xIA) (by decide))) hcx hvx hclx ?_
      refine lv_astore (lv' := [(4, .ref q9), (0, .ref (g 0 0)), (1, .int (zI k)), (2, .int (zI w)), (3, .ref o)]) hx hb dL_call_17 hl (by decide) rfl (fun ls hl => ?_)
      refine z_iconst hx hb dL_call_19 ?_
      exact vx_ret (W.iret hx hb hr (z_endL (P := zLP D cO cL A eE o g σ (zth_call σ k w) (zst_call σ k w) (fun f => zth_call σ k w = 0 → f 0 = (zI (zan_call σ)).toInt64)) (v := some (.int (zI 2))) ⟨by rw [ht], ⟨g, rfl, by rw [if_neg (by omega)]; exact hRx⟩, f0, hO.kept (hkx o (z_lt hO) hAo), fun z => by omega⟩ (z_Smono (fun q hq => Or.inl hq) hSx)) (fun q hq => Or.inl (hSx.2.2 q hq)) dL_call_20)
    · refine vx_catch (name := "java/lang/IllegalStateException") hown [⟨0, 10, 13, 32⟩, ⟨0, 10, 17, 13⟩] ⟨0, 10, 21, 23⟩ [] (by rw [htab]; rfl) (fun z hz => by
          simp only [List.mem_cons, List.not_mem_nil, or_false] at hz
          rcases hz with rfl | rfl
          · exact Or.inr ⟨by decide, "java/lang/IndexOutOfBoundsException", hts _ ct_L_call_32, hG.2 (xIS, xIO) (by decide)⟩
          · exact Or.inr ⟨by decide, "java/lang/IllegalArgumentException", hts _ ct_L_call_13, hG.2 (xIS, xIA) (by decide)⟩) (by decide) (by decide) (hts _ ct_L_call_23) (va_Nw.use rfl (hG.1.2.2.2.2.2.2.2.2.2.2.1 (xIS, xIS) (by decide))) hcx hvx hclx ?_
      refine lv_astore (lv' := [(4, .ref q9), (0, .ref (g 0 0)), (1, .int (zI k)), (2, .int (zI w)), (3, .ref o)]) hx hb dL_call_21 hl (by decide) rfl (fun ls hl => ?_)
      refine z_iconst hx hb dL_call_23 ?_
      exact vx_ret (W.iret hx hb hr (z_endL (P := zLP D cO cL A eE o g σ (zth_call σ k w) (zst_call σ k w) (fun f => zth_call σ k w = 0 → f 0 = (zI (zan_call σ)).toInt64)) (v := some (.int (zI 3))) ⟨by rw [ht], ⟨g, rfl, by rw [if_neg (by omega)]; exact hRx⟩, f0, hO.kept (hkx o (z_lt hO) hAo), fun z => by omega⟩ (z_Smono (fun q hq => Or.inl hq) hSx)) (fun q hq => Or.inl (hSx.2.2 q hq)) dL_call_24)
  obtain ⟨⟨e1, e2, e3⟩, e4⟩ := hpA
  rw [e2]
  refine lv_i2l hx hb dL_call_8 rfl ?_
  refine z_last (A := fun q => A q ∨ q = o) hx hb hK 2 (hO.kept (hkA o (z_lt hO) hAo)) rfl (Or.inr rfl) (z_Smono (fun q hq => Or.inl hq) hSA) (by decide) dL_call_9 (fun H2 locs2 hO2 hz2 ho2 hS2 => ?_)
  refine lv_goto (tgt := 25) hx hb dL_call_10 (by decide) ?_
  refine z_iconst hx hb dL_call_25 ?_
  exact vx_ret (W.iret hx hb hr (z_endL (P := zLP D cO cL A eE o g σ (zth_call σ k w) (zst_call σ k w) (fun f => zth_call σ k w = 0 → f 0 = (zI (zan_call σ)).toInt64)) (v := some (.int (zI 0))) ⟨by rw [e1], ⟨g', e4, by rw [if_pos e1, ← e3]; exact (hRA.kept (fun q _ hq => ho2 q (fun z => hAo (by rw [← z]; exact hq))))⟩, _, hO2, fun _ => by simp [vp_updL]⟩ hS2) hS2.2.2 dL_call_26)

theorem ct_L_join_32 : Cond.classLink RL 32 "java/lang/IndexOutOfBoundsException" ∈ wsL_join := by decide +kernel
theorem ct_L_join_23 : Cond.classLink RL 23 "java/lang/IllegalStateException" ∈ wsL_join := by decide +kernel
set_option maxRecDepth 100000 in
set_option maxHeartbeats 4000000 in
theorem c_L_join (l : Launch) (hfl : l.stackTraces = false) (D : va_G) (cI cO cL : ClassId) (A : Nat → Prop) (eE mi : Nat) (sa : Nat → Nat) (o : Nat) (g : zG) (σ : zT) (H0 : Heap) (f0 : Nat → Int64) (hR : RX D cO A eE g σ H0) (h : zAll σ) (hO : va_at D vwCl (o, zOut cL f0) H0) (hAo : ¬ A o) (k w q : Int) (hA : (-2147483648 ≤ k ∧ k < 2147483648) ∧ (-2147483648 ≤ w ∧ w < 2147483648) ∧ (-2147483648 ≤ q ∧ q < 2147483648)) : zLM l yL_join wsL_join ({ frames := 8, cells := 4, slots := 24, locals := 186 }) D cI cO cL A eE mi sa o [.ref (g 0 0), .int (zI k), .int (zI w), .int (zI q), .ref o] H0 (zLP D cO cL A eE o g σ (zth_join σ k w q) (zst_join σ k w q) (fun f => zth_join σ k w q = 0 → f 0 = (zI (zan_join σ k w q)).toInt64)) := by
  refine vx_ofWH (cc := cL_join) (maxL := 6) (ret := (some .int)) (hh := [(0, 12, 15, 32), (0, 12, 19, 23)]) (by decide) rfl ?_
  intro p e s m args below meth c s₁ B hml hv
  obtain ⟨rfl, hH, hG⟩ := hv
  subst hH
  have hK := hG.1.k
  have hx := B.exec
  have hb := B.bytes
  have hr := B.returns
  have hts := atoms_spec (ws := wsL_join) B.pre
  have hown : s.vm.findClass RL = some m.cls := findClass_of_methodNamed B.named
  have hlocks := B.notSynchronized
  have htab := vx_table (x := yL_join) B (hts _ List.mem_cons_self)
  have hl := lv_entry ([.ref (g 0 0), .int (zI k), .int (zI w), .int (zI q), .ref o]) (n := 6) (Nat.le_of_ble_eq_true rfl)
  rw [lg_entry_eq]
  generalize (lg_sl ([.ref (g 0 0), .int (zI k), .int (zI w), .int (zI q), .ref o]) ++ List.replicate (6 - (lg_sl ([.ref (g 0 0), .int (zI k), .int (zI w), .int (zI q), .ref o])).length) Slot.unset).toArray = ls at hl ⊢
  have hl : lv_has ls 6 [(0, .ref (g 0 0)), (1, .int (zI k)), (2, .int (zI w)), (3, .int (zI q)), (4, .ref o)] := hl
  refine lv_aload hx hb dL_join_0 (lv_at hl 4 rfl) ?_
  refine z_iconst hx hb dL_join_2 ?_
  refine lv_aload_n hx hb dL_join_3 rfl (lv_at hl 0 rfl) ?_
  refine lv_iload_n hx hb dL_join_4 rfl (lv_at hl 1 rfl) ?_
  refine lv_iload_n hx hb dL_join_5 rfl (lv_at hl 2 rfl) ?_
  refine lv_iload_n hx hb dL_join_6 rfl (lv_at hl 3 rfl) ?_
  refine z_xmV (As := [.int (zI k), .int (zI w), .int (zI q)]) (rest := [.int (zI 0), .ref o]) ⟨hx, hb, hml, hown, hts⟩ (c_X4_join_all l hfl D cI cO cL A eE mi sa g σ s.heap hR k w q h.1 h.2.1 hA) (cwV 3 hts gL_join_X4_join rfl rfl rfl (by decide +kernel) ⟨(Nat.le_of_ble_eq_true rfl), (Nat.le_of_ble_eq_true rfl)⟩) hG.1 va_S.rf (z_recv hK hR.x rfl) rfl hl.1 rfl (Nat.le_of_ble_eq_true rfl) dL_join_7 ⟨(Nat.le_of_ble_eq_true rfl), (Nat.le_of_ble_eq_true rfl)⟩ (fun E ce q9 H1 locs1 hpx hRx hzx hkx hSx hcx hvx hclx => ?_) (fun rv σ' g' HA locsA hpA hRA hzA hkA hSA => ?_)
  · rcases hpx with ⟨ht, rfl⟩ | ⟨ht, rfl⟩
    · refine vx_catch (name := "java/lang/IndexOutOfBoundsException") hown [] ⟨0, 12, 15, 32⟩ [⟨0, 12, 19, 23⟩] (by rw [htab]; rfl) (fun z hz => nomatch hz) (by decide) (by decide) (hts _ ct_L_join_32) (va_Nw.use rfl (hG.1.2.2.2.2.2.2.2.2.2.2.1 (xIO, xIO) (by decide))) hcx hvx hclx ?_
      refine lv_astore (lv' := [(5, .ref q9), (0, .ref (g 0 0)), (1, .int (zI k)), (2, .int (zI w)), (3, .int (zI q)), (4, .ref o)]) hx hb dL_join_15 hl (by decide) rfl (fun ls hl => ?_)
      refine z_iconst hx hb dL_join_17 ?_
      exact vx_ret (W.iret hx hb hr (z_endL (P := zLP D cO cL A eE o g σ (zth_join σ k w q) (zst_join σ k w q) (fun f => zth_join σ k w q = 0 → f 0 = (zI (zan_join σ k w q)).toInt64)) (v := some (.int (zI 1))) ⟨by rw [ht], ⟨g, rfl, by rw [if_neg (by omega)]; exact hRx⟩, f0, hO.kept (hkx o (z_lt hO) hAo), fun z => by omega⟩ (z_Smono (fun q hq => Or.inl hq) hSx)) (fun q hq => Or.inl (hSx.2.2 q hq)) dL_join_18)
    · refine vx_catch (name := "java/lang/IllegalStateException") hown [⟨0, 12, 15, 32⟩] ⟨0, 12, 19, 23⟩ [] (by rw [htab]; rfl) (fun z hz => by
          simp only [List.mem_cons, List.not_mem_nil, or_false] at hz
          subst hz; exact Or.inr ⟨by decide, "java/lang/IndexOutOfBoundsException", hts _ ct_L_join_32, hG.2 (xIS, xIO) (by decide)⟩) (by decide) (by decide) (hts _ ct_L_join_23) (va_Nw.use rfl (hG.1.2.2.2.2.2.2.2.2.2.2.1 (xIS, xIS) (by decide))) hcx hvx hclx ?_
      refine lv_astore (lv' := [(5, .ref q9), (0, .ref (g 0 0)), (1, .int (zI k)), (2, .int (zI w)), (3, .int (zI q)), (4, .ref o)]) hx hb dL_join_19 hl (by decide) rfl (fun ls hl => ?_)
      refine z_iconst hx hb dL_join_21 ?_
      exact vx_ret (W.iret hx hb hr (z_endL (P := zLP D cO cL A eE o g σ (zth_join σ k w q) (zst_join σ k w q) (fun f => zth_join σ k w q = 0 → f 0 = (zI (zan_join σ k w q)).toInt64)) (v := some (.int (zI 2))) ⟨by rw [ht], ⟨g, rfl, by rw [if_neg (by omega)]; exact hRx⟩, f0, hO.kept (hkx o (z_lt hO) hAo), fun z => by omega⟩ (z_Smono (fun q hq => Or.inl hq) hSx)) (fun q hq => Or.inl (hSx.2.2 q hq)) dL_join_22)
  obtain ⟨⟨e1, e2, e3⟩, e4⟩ := hpA
  rw [e2]
  refine lv_i2l hx hb dL_join_10 rfl ?_
  refine z_last (A := fun q => A q ∨ q = o) hx hb hK 2 (hO.kept (hkA o (z_lt hO) hAo)) rfl (Or.inr rfl) (z_Smono (fun q hq => Or.inl hq) hSA) (by decide) dL_join_11 (fun H2 locs2 hO2 hz2 ho2 hS2 => ?_)
  refine lv_goto (tgt := 23) hx hb dL_join_12 (by decide) ?_
  refine z_iconst hx hb dL_join_23 ?_
  exact vx_ret (W.iret hx hb hr (z_endL (P := zLP D cO cL A eE o g σ (zth_join σ k w q) (zst_join σ k w q) (fun f => zth_join σ k w q = 0 → f 0 = (zI (zan_join σ k w q)).toInt64)) (v := some (.int (zI 0))) ⟨by rw [e1], ⟨g', e4, by rw [if_pos e1, ← e3]; exact (hRA.kept (fun q _ hq => ho2 q (fun z => hAo (by rw [← z]; exact hq))))⟩, _, hO2, fun _ => by simp [vp_updL]⟩ hS2) hS2.2.2 dL_join_24)

theorem ct_L_again_32 : Cond.classLink RL 32 "java/lang/IndexOutOfBoundsException" ∈ wsL_again := by decide +kernel
theorem ct_L_again_23 : Cond.classLink RL 23 "java/lang/IllegalStateException" ∈ wsL_again := by decide +kernel
set_option maxRecDepth 100000 in
set_option maxHeartbeats 4000000 in
theorem c_L_again (l : Launch) (hfl : l.stackTraces = false) (D : va_G) (cI cO cL : ClassId) (A : Nat → Prop) (eE mi : Nat) (sa : Nat → Nat) (o : Nat) (g : zG) (σ : zT) (H0 : Heap) (f0 : Nat → Int64) (hR : RX D cO A eE g σ H0) (h : zAll σ) (hO : va_at D vwCl (o, zOut cL f0) H0) (hAo : ¬ A o) (k : Int) (hA : (-2147483648 ≤ k ∧ k < 2147483648)) : zLM l yL_again wsL_again ({ frames := 8, cells := 2, slots := 12, locals := 183 }) D cI cO cL A eE mi sa o [.ref (g 0 0), .int (zI k), .ref o] H0 (zLP D cO cL A eE o g σ (zth_again σ k) (zst_again σ k) (fun f => zth_again σ k = 0 → f 0 = (zI (zan_again σ k)).toInt64)) := by
  refine vx_ofWH (cc := cL_again) (maxL := 4) (ret := (some .int)) (hh := [(0, 9, 12, 32), (0, 9, 15, 23)]) (by decide) rfl ?_
  intro p e s m args below meth c s₁ B hml hv
  obtain ⟨rfl, hH, hG⟩ := hv
  subst hH
  have hK := hG.1.k
  have hx := B.exec
  have hb := B.bytes
  have hr := B.returns
  have hts := atoms_spec (ws := wsL_again) B.pre
  have hown : s.vm.findClass RL = some m.cls := findClass_of_methodNamed B.named
  have hlocks := B.notSynchronized
  have htab := vx_table (x := yL_again) B (hts _ List.mem_cons_self)
  have hl := lv_entry ([.ref (g 0 0), .int (zI k), .ref o]) (n := 4) (Nat.le_of_ble_eq_true rfl)
  rw [lg_entry_eq]
  generalize (lg_sl ([.ref (g 0 0), .int (zI k), .ref o]) ++ List.replicate (4 - (lg_sl ([.ref (g 0 0), .int (zI k), .ref o])).length) Slot.unset).toArray = ls at hl ⊢
  have hl : lv_has ls 4 [(0, .ref (g 0 0)), (1, .int (zI k)), (2, .ref o)] := hl
  refine lv_aload_n hx hb dL_again_0 rfl (lv_at hl 2 rfl) ?_
  refine z_iconst hx hb dL_again_1 ?_
  refine lv_aload_n hx hb dL_again_2 rfl (lv_at hl 0 rfl) ?_
  refine lv_iload_n hx hb dL_again_3 rfl (lv_at hl 1 rfl) ?_
  refine z_xmV (As := [.int (zI k)]) (rest := [.int (zI 0), .ref o]) ⟨hx, hb, hml, hown, hts⟩ (c_X4_again l hfl D cI cO cL A eE mi sa g σ s.heap hR k h.1 hA) (cwV 1 hts gL_again_X4_again rfl rfl rfl (by decide +kernel) ⟨(Nat.le_of_ble_eq_true rfl), (Nat.le_of_ble_eq_true rfl)⟩) hG.1 va_S.rf (z_recv hK hR.x rfl) rfl hl.1 rfl (Nat.le_of_ble_eq_true rfl) dL_again_4 ⟨(Nat.le_of_ble_eq_true rfl), (Nat.le_of_ble_eq_true rfl)⟩ (fun E ce q9 H1 locs1 hpx hRx hzx hkx hSx hcx hvx hclx => ?_) (fun rv σ' g' HA locsA hpA hRA hzA hkA hSA => ?_)
  · rcases hpx with ⟨ht, rfl⟩ | ⟨ht, rfl⟩
    · refine vx_catch (name := "java/lang/IndexOutOfBoundsException") hown [] ⟨0, 9, 12, 32⟩ [⟨0, 9, 15, 23⟩] (by rw [htab]; rfl) (fun z hz => nomatch hz) (by decide) (by decide) (hts _ ct_L_again_32) (va_Nw.use rfl (hG.1.2.2.2.2.2.2.2.2.2.2.1 (xIO, xIO) (by decide))) hcx hvx hclx ?_
      refine lv_astore_n (lv' := [(3, .ref q9), (0, .ref (g 0 0)), (1, .int (zI k)), (2, .ref o)]) hx hb dL_again_12 rfl hl (by decide) rfl (fun ls hl => ?_)
      refine z_iconst hx hb dL_again_13 ?_
      exact vx_ret (W.iret hx hb hr (z_endL (P := zLP D cO cL A eE o g σ (zth_again σ k) (zst_again σ k) (fun f => zth_again σ k = 0 → f 0 = (zI (zan_again σ k)).toInt64)) (v := some (.int (zI 1))) ⟨by rw [ht], ⟨g, rfl, by rw [if_neg (by omega)]; exact hRx⟩, f0, hO.kept (hkx o (z_lt hO) hAo), fun z => by omega⟩ (z_Smono (fun q hq => Or.inl hq) hSx)) (fun q hq => Or.inl (hSx.2.2 q hq)) dL_again_14)
    · refine vx_catch (name := "java/lang/IllegalStateException") hown [⟨0, 9, 12, 32⟩] ⟨0, 9, 15, 23⟩ [] (by rw [htab]; rfl) (fun z hz => by
          simp only [List.mem_cons, List.not_mem_nil, or_false] at hz
          subst hz; exact Or.inr ⟨by decide, "java/lang/IndexOutOfBoundsException", hts _ ct_L_again_32, hG.2 (xIS, xIO) (by decide)⟩) (by decide) (by decide) (hts _ ct_L_again_23) (va_Nw.use rfl (hG.1.2.2.2.2.2.2.2.2.2.2.1 (xIS, xIS) (by decide))) hcx hvx hclx ?_
      refine lv_astore_n (lv' := [(3, .ref q9), (0, .ref (g 0 0)), (1, .int (zI k)), (2, .ref o)]) hx hb dL_again_15 rfl hl (by decide) rfl (fun ls hl => ?_)
      refine z_iconst hx hb dL_again_16 ?_
      exact vx_ret (W.iret hx hb hr (z_endL (P := zLP D cO cL A eE o g σ (zth_again σ k) (zst_again σ k) (fun f => zth_again σ k = 0 → f 0 = (zI (zan_again σ k)).toInt64)) (v := some (.int (zI 2))) ⟨by rw [ht], ⟨g, rfl, by rw [if_neg (by omega)]; exact hRx⟩, f0, hO.kept (hkx o (z_lt hO) hAo), fun z => by omega⟩ (z_Smono (fun q hq => Or.inl hq) hSx)) (fun q hq => Or.inl (hSx.2.2 q hq)) dL_again_17)
  obtain ⟨⟨e1, e2, e3⟩, e4⟩ := hpA
  rw [e2]
  refine lv_i2l hx hb dL_again_7 rfl ?_
  refine z_last (A := fun q => A q ∨ q = o) hx hb hK 2 (hO.kept (hkA o (z_lt hO) hAo)) rfl (Or.inr rfl) (z_Smono (fun q hq => Or.inl hq) hSA) (by decide) dL_again_8 (fun H2 locs2 hO2 hz2 ho2 hS2 => ?_)
  refine lv_goto (tgt := 18) hx hb dL_again_9 (by decide) ?_
  refine z_iconst hx hb dL_again_18 ?_
  exact vx_ret (W.iret hx hb hr (z_endL (P := zLP D cO cL A eE o g σ (zth_again σ k) (zst_again σ k) (fun f => zth_again σ k = 0 → f 0 = (zI (zan_again σ k)).toInt64)) (v := some (.int (zI 0))) ⟨by rw [e1], ⟨g', e4, by rw [if_pos e1, ← e3]; exact (hRA.kept (fun q _ hq => ho2 q (fun z => hAo (by rw [← z]; exact hq))))⟩, _, hO2, fun _ => by simp [vp_updL]⟩ hS2) hS2.2.2 dL_again_19)

theorem ct_L_drop_32 : Cond.classLink RL 32 "java/lang/IndexOutOfBoundsException" ∈ wsL_drop := by decide +kernel
theorem ct_L_drop_23 : Cond.classLink RL 23 "java/lang/IllegalStateException" ∈ wsL_drop := by decide +kernel
set_option maxRecDepth 100000 in
set_option maxHeartbeats 4000000 in
theorem c_L_drop (l : Launch) (hfl : l.stackTraces = false) (D : va_G) (cI cO cL : ClassId) (A : Nat → Prop) (eE mi : Nat) (sa : Nat → Nat) (o : Nat) (g : zG) (σ : zT) (H0 : Heap) (f0 : Nat → Int64) (hR : RX D cO A eE g σ H0) (h : zAll σ) (hO : va_at D vwCl (o, zOut cL f0) H0) (hAo : ¬ A o) (k w : Int) (hA : (-2147483648 ≤ k ∧ k < 2147483648) ∧ (-2147483648 ≤ w ∧ w < 2147483648)) : zLM l yL_drop wsL_drop ({ frames := 9, cells := 3, slots := 18, locals := 210 }) D cI cO cL A eE mi sa o [.ref (g 0 0), .int (zI k), .int (zI w), .ref o] H0 (zLP D cO cL A eE o g σ (zth_drop σ k w) (zst_drop σ k w) (fun f => zth_drop σ k w = 0 → f 0 = (zI (zan_drop σ k w)).toInt64)) := by
  refine vx_ofWH (cc := cL_drop) (maxL := 5) (ret := (some .int)) (hh := [(0, 10, 13, 32), (0, 10, 17, 23)]) (by decide) rfl ?_
  intro p e s m args below meth c s₁ B hml hv
  obtain ⟨rfl, hH, hG⟩ := hv
  subst hH
  have hK := hG.1.k
  have hx := B.exec
  have hb := B.bytes
  have hr := B.returns
  have hts := atoms_spec (ws := wsL_drop) B.pre
  have hown : s.vm.findClass RL = some m.cls := findClass_of_methodNamed B.named
  have hlocks := B.notSynchronized
  have htab := vx_table (x := yL_drop) B (hts _ List.mem_cons_self)
  have hl := lv_entry ([.ref (g 0 0), .int (zI k), .int (zI w), .ref o]) (n := 5) (Nat.le_of_ble_eq_true rfl)
  rw [lg_entry_eq]
  generalize (lg_sl ([.ref (g 0 0), .int (zI k), .int (zI w), .ref o]) ++ List.replicate (5 - (lg_sl ([.ref (g 0 0), .int (zI k), .int (zI w), .ref o])).length) Slot.unset).toArray = ls at hl ⊢
  have hl : lv_has ls 5 [(0, .ref (g 0 0)), (1, .int (zI k)), (2, .int (zI w)), (3, .ref o)] := hl
  refine lv_aload_n hx hb dL_drop_0 rfl (lv_at hl 3 rfl) ?_
  refine z_iconst hx hb dL_drop_1 ?_
  refine lv_aload_n hx hb dL_drop_2 rfl (lv_at hl 0 rfl) ?_
  refine lv_iload_n hx hb dL_drop_3 rfl (lv_at hl 1 rfl) ?_
  refine lv_iload_n hx hb dL_drop_4 rfl (lv_at hl 2 rfl) ?_
  refine z_xmV (As := [.int (zI k), .int (zI w)]) (rest := [.int (zI 0), .ref o]) ⟨hx, hb, hml, hown, hts⟩ (c_X4_drop l hfl D cI cO cL A eE mi sa g σ s.heap hR k w h.1 h.2.1 hA) (cwV 2 hts gL_drop_X4_drop rfl rfl rfl (by decide +kernel) ⟨(Nat.le_of_ble_eq_true rfl), (Nat.le_of_ble_eq_true rfl)⟩) hG.1 va_S.rf (z_recv hK hR.x rfl) rfl hl.1 rfl (Nat.le_of_ble_eq_true rfl) dL_drop_5 ⟨(Nat.le_of_ble_eq_true rfl), (Nat.le_of_ble_eq_true rfl)⟩ (fun E ce q9 H1 locs1 hpx hRx hzx hkx hSx hcx hvx hclx => ?_) (fun rv σ' g' HA locsA hpA hRA hzA hkA hSA => ?_)
  · rcases hpx with ⟨ht, rfl⟩ | ⟨ht, rfl⟩
    · refine vx_catch (name := "java/lang/IndexOutOfBoundsException") hown [] ⟨0, 10, 13, 32⟩ [⟨0, 10, 17, 23⟩] (by rw [htab]; rfl) (fun z hz => nomatch hz) (by decide) (by decide) (hts _ ct_L_drop_32) (va_Nw.use rfl (hG.1.2.2.2.2.2.2.2.2.2.2.1 (xIO, xIO) (by decide))) hcx hvx hclx ?_
      refine lv_astore (lv' := [(4, .ref q9), (0, .ref (g 0 0)), (1, .int (zI k)), (2, .int (zI w)), (3, .ref o)]) hx hb dL_drop_13 hl (by decide) rfl (fun ls hl => ?_)
      refine z_iconst hx hb dL_drop_15 ?_
      exact vx_ret (W.iret hx hb hr (z_endL (P := zLP D cO cL A eE o g σ (zth_drop σ k w) (zst_drop σ k w) (fun f => zth_drop σ k w = 0 → f 0 = (zI (zan_drop σ k w)).toInt64)) (v := some (.int (zI 1))) ⟨by rw [ht], ⟨g, rfl, by rw [if_neg (by omega)]; exact hRx⟩, f0, hO.kept (hkx o (z_lt hO) hAo), fun z => by omega⟩ (z_Smono (fun q hq => Or.inl hq) hSx)) (fun q hq => Or.inl (hSx.2.2 q hq)) dL_drop_16)
    · refine vx_catch (name := "java/lang/IllegalStateException") hown [⟨0, 10, 13, 32⟩] ⟨0, 10, 17, 23⟩ [] (by rw [htab]; rfl) (fun z hz => by
          simp only [List.mem_cons, List.not_mem_nil, or_false] at hz
          subst hz; exact Or.inr ⟨by decide, "java/lang/IndexOutOfBoundsException", hts _ ct_L_drop_32, hG.2 (xIS, xIO) (by decide)⟩) (by decide) (by decide) (hts _ ct_L_drop_23) (va_Nw.use rfl (hG.1.2.2.2.2.2.2.2.2.2.2.1 (xIS, xIS) (by decide))) hcx hvx hclx ?_
      refine lv_astore (lv' := [(4, .ref q9), (0, .ref (g 0 0)), (1, .int (zI k)), (2, .int (zI w)), (3, .ref o)]) hx hb dL_drop_17 hl (by decide) rfl (fun ls hl => ?_)
      refine z_iconst hx hb dL_drop_19 ?_
      exact vx_ret (W.iret hx hb hr (z_endL (P := zLP D cO cL A eE o g σ (zth_drop σ k w) (zst_drop σ k w) (fun f => zth_drop σ k w = 0 → f 0 = (zI (zan_drop σ k w)).toInt64)) (v := some (.int (zI 2))) ⟨by rw [ht], ⟨g, rfl, by rw [if_neg (by omega)]; exact hRx⟩, f0, hO.kept (hkx o (z_lt hO) hAo), fun z => by omega⟩ (z_Smono (fun q hq => Or.inl hq) hSx)) (fun q hq => Or.inl (hSx.2.2 q hq)) dL_drop_20)
  obtain ⟨⟨e1, e2, e3⟩, e4⟩ := hpA
  rw [e2]
  refine lv_i2l hx hb dL_drop_8 rfl ?_
  refine z_last (A := fun q => A q ∨ q = o) hx hb hK 2 (hO.kept (hkA o (z_lt hO) hAo)) rfl (Or.inr rfl) (z_Smono (fun q hq => Or.inl hq) hSA) (by decide) dL_drop_9 (fun H2 locs2 hO2 hz2 ho2 hS2 => ?_)
  refine lv_goto (tgt := 21) hx hb dL_drop_10 (by decide) ?_
  refine z_iconst hx hb dL_drop_21 ?_
  exact vx_ret (W.iret hx hb hr (z_endL (P := zLP D cO cL A eE o g σ (zth_drop σ k w) (zst_drop σ k w) (fun f => zth_drop σ k w = 0 → f 0 = (zI (zan_drop σ k w)).toInt64)) (v := some (.int (zI 0))) ⟨by rw [e1], ⟨g', e4, by rw [if_pos e1, ← e3]; exact (hRA.kept (fun q _ hq => ho2 q (fun z => hAo (by rw [← z]; exact hq))))⟩, _, hO2, fun _ => by simp [vp_updL]⟩ hS2) hS2.2.2 dL_drop_22)

theorem ct_L_pass_13 : Cond.classLink RL 13 "java/lang/IllegalArgumentException" ∈ wsL_pass := by decide +kernel
theorem ct_L_pass_23 : Cond.classLink RL 23 "java/lang/IllegalStateException" ∈ wsL_pass := by decide +kernel
set_option maxRecDepth 100000 in
set_option maxHeartbeats 4000000 in
theorem c_L_pass (l : Launch) (hfl : l.stackTraces = false) (D : va_G) (cI cO cL : ClassId) (A : Nat → Prop) (eE mi : Nat) (sa : Nat → Nat) (o : Nat) (g : zG) (σ : zT) (H0 : Heap) (f0 : Nat → Int64) (hR : RX D cO A eE g σ H0) (h : zAll σ) (hO : va_at D vwCl (o, zOut cL f0) H0) (hAo : ¬ A o) (mn : Int) (hA : (-2147483648 ≤ mn ∧ mn < 2147483648)) : zLM l yL_pass wsL_pass ({ frames := 8, cells := 2, slots := 12, locals := 127 }) D cI cO cL A eE mi sa o [.ref (g 0 0), .int (zI mn), .ref o] H0 (zLP D cO cL A eE o g σ (zth_pass σ mn) (zst_pass σ mn) (fun f => zth_pass σ mn = 0 → f 0 = (zI (zan_pass σ mn)).toInt64)) := by
  refine vx_ofWH (cc := cL_pass) (maxL := 4) (ret := (some .int)) (hh := [(0, 9, 12, 13), (0, 9, 15, 23)]) (by decide) rfl ?_
  intro p e s m args below meth c s₁ B hml hv
  obtain ⟨rfl, hH, hG⟩ := hv
  subst hH
  have hK := hG.1.k
  have hx := B.exec
  have hb := B.bytes
  have hr := B.returns
  have hts := atoms_spec (ws := wsL_pass) B.pre
  have hown : s.vm.findClass RL = some m.cls := findClass_of_methodNamed B.named
  have hlocks := B.notSynchronized
  have htab := vx_table (x := yL_pass) B (hts _ List.mem_cons_self)
  have hl := lv_entry ([.ref (g 0 0), .int (zI mn), .ref o]) (n := 4) (Nat.le_of_ble_eq_true rfl)
  rw [lg_entry_eq]
  generalize (lg_sl ([.ref (g 0 0), .int (zI mn), .ref o]) ++ List.replicate (4 - (lg_sl ([.ref (g 0 0), .int (zI mn), .ref o])).length) Slot.unset).toArray = ls at hl ⊢
  have hl : lv_has ls 4 [(0, .ref (g 0 0)), (1, .int (zI mn)), (2, .ref o)] := hl
  refine lv_aload_n hx hb dL_pass_0 rfl (lv_at hl 2 rfl) ?_
  refine z_iconst hx hb dL_pass_1 ?_
  refine lv_aload_n hx hb dL_pass_2 rfl (lv_at hl 0 rfl) ?_
  refine lv_iload_n hx hb dL_pass_3 rfl (lv_at hl 1 rfl) ?_
  refine z_xmV (As := [.int (zI mn)]) (rest := [.int (zI 0), .ref o]) ⟨hx, hb, hml, hown, hts⟩ (c_X4_pass l hfl D cI cO cL A eE mi sa g σ s.heap hR mn h.1 h.2.1 hA) (cwV 1 hts gL_pass_X4_pass rfl rfl rfl (by decide +kernel) ⟨(Nat.le_of_ble_eq_true rfl), (Nat.le_of_ble_eq_true rfl)⟩) hG.1 va_S.rf (z_recv hK hR.x rfl) rfl hl.1 rfl (Nat.le_of_ble_eq_true rfl) dL_pass_4 ⟨(Nat.le_of_ble_eq_true rfl), (Nat.le_of_ble_eq_true rfl)⟩ (fun E ce q9 H1 locs1 hpx hRx hzx hkx hSx hcx hvx hclx => ?_) (fun rv σ' g' HA locsA hpA hRA hzA hkA hSA => ?_)
  · rcases hpx with ⟨ht, rfl⟩ | ⟨ht, rfl⟩
    · refine vx_catch (name := "java/lang/IllegalArgumentException") hown [] ⟨0, 9, 12, 13⟩ [⟨0, 9, 15, 23⟩] (by rw [htab]; rfl) (fun z hz => nomatch hz) (by decide) (by decide) (hts _ ct_L_pass_13) (va_Nw.use rfl (hG.1.2.2.2.2.2.2.2.2.2.2.1 (xIA, xIA) (by decide))) hcx hvx hclx ?_
      refine lv_astore_n (lv' := [(3, .ref q9), (0, .ref (g 0 0)), (1, .int (zI mn)), (2, .ref o)]) hx hb dL_pass_12 rfl hl (by decide) rfl (fun ls hl => ?_)
      refine z_iconst hx hb dL_pass_13 ?_
      exact vx_ret (W.iret hx hb hr (z_endL (P := zLP D cO cL A eE o g σ (zth_pass σ mn) (zst_pass σ mn) (fun f => zth_pass σ mn = 0 → f 0 = (zI (zan_pass σ mn)).toInt64)) (v := some (.int (zI 1))) ⟨by rw [ht], ⟨g, rfl, by rw [if_neg (by omega)]; exact hRx⟩, f0, hO.kept (hkx o (z_lt hO) hAo), fun z => by omega⟩ (z_Smono (fun q hq => Or.inl hq) hSx)) (fun q hq => Or.inl (hSx.2.2 q hq)) dL_pass_14)
    · refine vx_catch (name := "java/lang/IllegalStateException") hown [⟨0, 9, 12, 13⟩] ⟨0, 9, 15, 23⟩ [] (by rw [htab]; rfl) (fun z hz => by
          simp only [List.mem_cons, List.not_mem_nil, or_false] at hz
          subst hz; exact Or.inr ⟨by decide, "java/lang/IllegalArgumentException", hts _ ct_L_pass_13, hG.2 (xIS, xIA) (by decide)⟩) (by decide) (by decide) (hts _ ct_L_pass_23) (va_Nw.use rfl (hG.1.2.2.2.2.2.2.2.2.2.2.1 (xIS, xIS) (by decide))) hcx hvx hclx ?_
      refine lv_astore_n (lv' := [(3, .ref q9), (0, .ref (g 0 0)), (1, .int (zI mn)), (2, .ref o)]) hx hb dL_pass_15 rfl hl (by decide) rfl (fun ls hl => ?_)
      refine z_iconst hx hb dL_pass_16 ?_
      exact vx_ret (W.iret hx hb hr (z_endL (P := zLP D cO cL A eE o g σ (zth_pass σ mn) (zst_pass σ mn) (fun f => zth_pass σ mn = 0 → f 0 = (zI (zan_pass σ mn)).toInt64)) (v := some (.int (zI 2))) ⟨by rw [ht], ⟨g, rfl, by rw [if_neg (by omega)]; exact hRx⟩, f0, hO.kept (hkx o (z_lt hO) hAo), fun z => by omega⟩ (z_Smono (fun q hq => Or.inl hq) hSx)) (fun q hq => Or.inl (hSx.2.2 q hq)) dL_pass_17)
  obtain ⟨⟨e1, e2, e3⟩, e4⟩ := hpA
  rw [e2]
  refine lv_i2l hx hb dL_pass_7 rfl ?_
  refine z_last (A := fun q => A q ∨ q = o) hx hb hK 2 (hO.kept (hkA o (z_lt hO) hAo)) rfl (Or.inr rfl) (z_Smono (fun q hq => Or.inl hq) hSA) (by decide) dL_pass_8 (fun H2 locs2 hO2 hz2 ho2 hS2 => ?_)
  refine lv_goto (tgt := 18) hx hb dL_pass_9 (by decide) ?_
  refine z_iconst hx hb dL_pass_18 ?_
  exact vx_ret (W.iret hx hb hr (z_endL (P := zLP D cO cL A eE o g σ (zth_pass σ mn) (zst_pass σ mn) (fun f => zth_pass σ mn = 0 → f 0 = (zI (zan_pass σ mn)).toInt64)) (v := some (.int (zI 0))) ⟨by rw [e1], ⟨g', e4, by rw [if_pos e1, ← e3]; exact (hRA.kept (fun q _ hq => ho2 q (fun z => hAo (by rw [← z]; exact hq))))⟩, _, hO2, fun _ => by simp [vp_updL]⟩ hS2) hS2.2.2 dL_pass_19)

theorem ct_L_level_13 : Cond.classLink RL 13 "java/lang/IllegalArgumentException" ∈ wsL_level := by decide +kernel
set_option maxRecDepth 100000 in
set_option maxHeartbeats 4000000 in
theorem c_L_level (l : Launch) (hfl : l.stackTraces = false) (D : va_G) (cI cO cL : ClassId) (A : Nat → Prop) (eE mi : Nat) (sa : Nat → Nat) (o : Nat) (g : zG) (σ : zT) (H0 : Heap) (f0 : Nat → Int64) (hR : RX D cO A eE g σ H0) (h : zAll σ) (hO : va_at D vwCl (o, zOut cL f0) H0) (hAo : ¬ A o) (t : Int) (hA : (-2147483648 ≤ t ∧ t < 2147483648)) : zLM l yL_level wsL_level ({ frames := 8, cells := 1, slots := 6, locals := 125 }) D cI cO cL A eE mi sa o [.ref (g 0 0), .int (zI t), .ref o] H0 (zLP D cO cL A eE o g σ (zth_level t) (σ) (fun f => zth_level t = 0 → f 0 = (zI (zLev σ t)).toInt64)) := by
  refine vx_ofWH (cc := cL_level) (maxL := 4) (ret := (some .int)) (hh := [(0, 9, 12, 13)]) (by decide) rfl ?_
  intro p e s m args below meth c s₁ B hml hv
  obtain ⟨rfl, hH, hG⟩ := hv
  subst hH
  have hK := hG.1.k
  have hx := B.exec
  have hb := B.bytes
  have hr := B.returns
  have hts := atoms_spec (ws := wsL_level) B.pre
  have hown : s.vm.findClass RL = some m.cls := findClass_of_methodNamed B.named
  have hlocks := B.notSynchronized
  have htab := vx_table (x := yL_level) B (hts _ List.mem_cons_self)
  have hl := lv_entry ([.ref (g 0 0), .int (zI t), .ref o]) (n := 4) (Nat.le_of_ble_eq_true rfl)
  rw [lg_entry_eq]
  generalize (lg_sl ([.ref (g 0 0), .int (zI t), .ref o]) ++ List.replicate (4 - (lg_sl ([.ref (g 0 0), .int (zI t), .ref o])).length) Slot.unset).toArray = ls at hl ⊢
  have hl : lv_has ls 4 [(0, .ref (g 0 0)), (1, .int (zI t)), (2, .ref o)] := hl
  refine lv_aload_n hx hb dL_level_0 rfl (lv_at hl 2 rfl) ?_
  refine z_iconst hx hb dL_level_1 ?_
  refine lv_aload_n hx hb dL_level_2 rfl (lv_at hl 0 rfl) ?_
  refine lv_iload_n hx hb dL_level_3 rfl (lv_at hl 1 rfl) ?_
  refine z_xmV (As := [.int (zI t)]) (rest := [.int (zI 0), .ref o]) ⟨hx, hb, hml, hown, hts⟩ (c_X4_level l hfl D cI cO cL A eE mi sa g σ s.heap hR t h.1 hA) (cwV 1 hts gL_level_X4_level rfl rfl rfl (by decide +kernel) ⟨(Nat.le_of_ble_eq_true rfl), (Nat.le_of_ble_eq_true rfl)⟩) hG.1 va_S.rf (z_recv hK hR.x rfl) rfl hl.1 rfl (Nat.le_of_ble_eq_true rfl) dL_level_4 ⟨(Nat.le_of_ble_eq_true rfl), (Nat.le_of_ble_eq_true rfl)⟩ (fun E ce q9 H1 locs1 hpx hRx hzx hkx hSx hcx hvx hclx => ?_) (fun rv σ' g' HA locsA hpA hRA hzA hkA hSA => ?_)
  · obtain ⟨ht, rfl⟩ := hpx
    refine vx_catch (name := "java/lang/IllegalArgumentException") hown [] ⟨0, 9, 12, 13⟩ [] (by rw [htab]; rfl) (fun z hz => nomatch hz) (by decide) (by decide) (hts _ ct_L_level_13) (va_Nw.use rfl (hG.1.2.2.2.2.2.2.2.2.2.2.1 (xIA, xIA) (by decide))) hcx hvx hclx ?_
    refine lv_astore_n (lv' := [(3, .ref q9), (0, .ref (g 0 0)), (1, .int (zI t)), (2, .ref o)]) hx hb dL_level_12 rfl hl (by decide) rfl (fun ls hl => ?_)
    refine z_iconst hx hb dL_level_13 ?_
    exact vx_ret (W.iret hx hb hr (z_endL (P := zLP D cO cL A eE o g σ (zth_level t) (σ) (fun f => zth_level t = 0 → f 0 = (zI (zLev σ t)).toInt64)) (v := some (.int (zI 1))) ⟨by rw [ht], ⟨g, rfl, by rw [if_neg (by omega)]; exact hRx⟩, f0, hO.kept (hkx o (z_lt hO) hAo), fun z => by omega⟩ (z_Smono (fun q hq => Or.inl hq) hSx)) (fun q hq => Or.inl (hSx.2.2 q hq)) dL_level_14)
  obtain ⟨⟨e1, e2, e3⟩, e4⟩ := hpA
  rw [e2]
  refine lv_i2l hx hb dL_level_7 rfl ?_
  refine z_last (A := fun q => A q ∨ q = o) hx hb hK 2 (hO.kept (hkA o (z_lt hO) hAo)) rfl (Or.inr rfl) (z_Smono (fun q hq => Or.inl hq) hSA) (by decide) dL_level_8 (fun H2 locs2 hO2 hz2 ho2 hS2 => ?_)
  refine lv_goto (tgt := 15) hx hb dL_level_9 (by decide) ?_
  refine z_iconst hx hb dL_level_15 ?_
  exact vx_ret (W.iret hx hb hr (z_endL (P := zLP D cO cL A eE o g σ (zth_level t) (σ) (fun f => zth_level t = 0 → f 0 = (zI (zLev σ t)).toInt64)) (v := some (.int (zI 0))) ⟨by rw [e1], ⟨g', e4, by rw [if_pos e1, ← e3]; exact (hRA.kept (fun q _ hq => ho2 q (fun z => hAo (by rw [← z]; exact hq))))⟩, _, hO2, fun _ => by simp [vp_updL]⟩ hS2) hS2.2.2 dL_level_16)

theorem ct_L_window_32 : Cond.classLink RL 32 "java/lang/IndexOutOfBoundsException" ∈ wsL_window := by decide +kernel
theorem ct_L_window_13 : Cond.classLink RL 13 "java/lang/IllegalArgumentException" ∈ wsL_window := by decide +kernel
set_option maxRecDepth 100000 in
set_option maxHeartbeats 4000000 in
theorem c_L_window (l : Launch) (hfl : l.stackTraces = false) (D : va_G) (cI cO cL : ClassId) (A : Nat → Prop) (eE mi : Nat) (sa : Nat → Nat) (o : Nat) (g : zG) (σ : zT) (H0 : Heap) (f0 : Nat → Int64) (hR : RX D cO A eE g σ H0) (h : zAll σ) (hO : va_at D vwCl (o, zOut cL f0) H0) (hAo : ¬ A o) (k t : Int) (hA : (-2147483648 ≤ k ∧ k < 2147483648) ∧ (-2147483648 ≤ t ∧ t < 2147483648)) : zLM l yL_window wsL_window ({ frames := 8, cells := 2, slots := 12, locals := 130 }) D cI cO cL A eE mi sa o [.ref (g 0 0), .int (zI k), .int (zI t), .ref o] H0 (zLP D cO cL A eE o g σ (zth_window σ k t) (σ) (fun f => zth_window σ k t = 0 → f 0 = (zI (zan_window σ k t)).toInt64)) := by
  refine vx_ofWH (cc := cL_window) (maxL := 5) (ret := (some .int)) (hh := [(0, 10, 13, 32), (0, 10, 17, 13)]) (by decide) rfl ?_
  intro p e s m args below meth c s₁ B hml hv
  obtain ⟨rfl, hH, hG⟩ := hv
  subst hH
  have hK := hG.1.k
  have hx := B.exec
  have hb := B.bytes
  have hr := B.returns
  have hts := atoms_spec (ws := wsL_window) B.pre
  have hown : s.vm.findClass RL = some m.cls := findClass_of_methodNamed B.named
  have hlocks := B.notSynchronized
  have htab := vx_table (x := yL_window) B (hts _ List.mem_cons_self)
  have hl := lv_entry ([.ref (g 0 0), .int (zI k), .int (zI t), .ref o]) (n := 5) (Nat.le_of_ble_eq_true rfl)
  rw [lg_entry_eq]
  generalize (lg_sl ([.ref (g 0 0), .int (zI k), .int (zI t), .ref o]) ++ List.replicate (5 - (lg_sl ([.ref (g 0 0), .int (zI k), .int (zI t), .ref o])).length) Slot.unset).toArray = ls at hl ⊢
  have hl : lv_has ls 5 [(0, .ref (g 0 0)), (1, .int (zI k)), (2, .int (zI t)), (3, .ref o)] := hl
  refine lv_aload_n hx hb dL_window_0 rfl (lv_at hl 3 rfl) ?_
  refine z_iconst hx hb dL_window_1 ?_
  refine lv_aload_n hx hb dL_window_2 rfl (lv_at hl 0 rfl) ?_
  refine lv_iload_n hx hb dL_window_3 rfl (lv_at hl 1 rfl) ?_
  refine lv_iload_n hx hb dL_window_4 rfl (lv_at hl 2 rfl) ?_
  refine z_xmV (As := [.int (zI k), .int (zI t)]) (rest := [.int (zI 0), .ref o]) ⟨hx, hb, hml, hown, hts⟩ (c_X4_window l hfl D cI cO cL A eE mi sa g σ s.heap hR k t h.1 hA) (cwV 2 hts gL_window_X4_window rfl rfl rfl (by decide +kernel) ⟨(Nat.le_of_ble_eq_true rfl), (Nat.le_of_ble_eq_true rfl)⟩) hG.1 va_S.rf (z_recv hK hR.x rfl) rfl hl.1 rfl (Nat.le_of_ble_eq_true rfl) dL_window_5 ⟨(Nat.le_of_ble_eq_true rfl), (Nat.le_of_ble_eq_true rfl)⟩ (fun E ce q9 H1 locs1 hpx hRx hzx hkx hSx hcx hvx hclx => ?_) (fun rv σ' g' HA locsA hpA hRA hzA hkA hSA => ?_)
  · rcases hpx with ⟨ht, rfl⟩ | ⟨ht, rfl⟩
    · refine vx_catch (name := "java/lang/IndexOutOfBoundsException") hown [] ⟨0, 10, 13, 32⟩ [⟨0, 10, 17, 13⟩] (by rw [htab]; rfl) (fun z hz => nomatch hz) (by decide) (by decide) (hts _ ct_L_window_32) (va_Nw.use rfl (hG.1.2.2.2.2.2.2.2.2.2.2.1 (xIO, xIO) (by decide))) hcx hvx hclx ?_
      refine lv_astore (lv' := [(4, .ref q9), (0, .ref (g 0 0)), (1, .int (zI k)), (2, .int (zI t)), (3, .ref o)]) hx hb dL_window_13 hl (by decide) rfl (fun ls hl => ?_)
      refine z_iconst hx hb dL_window_15 ?_
      exact vx_ret (W.iret hx hb hr (z_endL (P := zLP D cO cL A eE o g σ (zth_window σ k t) (σ) (fun f => zth_window σ k t = 0 → f 0 = (zI (zan_window σ k t)).toInt64)) (v := some (.int (zI 1))) ⟨by rw [ht], ⟨g, rfl, by rw [if_neg (by omega)]; exact hRx⟩, f0, hO.kept (hkx o (z_lt hO) hAo), fun z => by omega⟩ (z_Smono (fun q hq => Or.inl hq) hSx)) (fun q hq => Or.inl (hSx.2.2 q hq)) dL_window_16)
    · refine vx_catch (name := "java/lang/IllegalArgumentException") hown [⟨0, 10, 13, 32⟩] ⟨0, 10, 17, 13⟩ [] (by rw [htab]; rfl) (fun z hz => by
          simp only [List.mem_cons, List.not_mem_nil, or_false] at hz
          subst hz; exact Or.inr ⟨by decide, "java/lang/IndexOutOfBoundsException", hts _ ct_L_window_32, hG.2 (xIA, xIO) (by decide)⟩) (by decide) (by decide) (hts _ ct_L_window_13) (va_Nw.use rfl (hG.1.2.2.2.2.2.2.2.2.2.2.1 (xIA, xIA) (by decide))) hcx hvx hclx ?_
      refine lv_astore (lv' := [(4, .ref q9), (0, .ref (g 0 0)), (1, .int (zI k)), (2, .int (zI t)), (3, .ref o)]) hx hb dL_window_17 hl (by decide) rfl (fun ls hl => ?_)
      refine z_iconst hx hb dL_window_19 ?_
      exact vx_ret (W.iret hx hb hr (z_endL (P := zLP D cO cL A eE o g σ (zth_window σ k t) (σ) (fun f => zth_window σ k t = 0 → f 0 = (zI (zan_window σ k t)).toInt64)) (v := some (.int (zI 2))) ⟨by rw [ht], ⟨g, rfl, by rw [if_neg (by omega)]; exact hRx⟩, f0, hO.kept (hkx o (z_lt hO) hAo), fun z => by omega⟩ (z_Smono (fun q hq => Or.inl hq) hSx)) (fun q hq => Or.inl (hSx.2.2 q hq)) dL_window_20)
  obtain ⟨⟨e1, e2, e3⟩, e4⟩ := hpA
  rw [e2]
  refine lv_i2l hx hb dL_window_8 rfl ?_
  refine z_last (A := fun q => A q ∨ q = o) hx hb hK 2 (hO.kept (hkA o (z_lt hO) hAo)) rfl (Or.inr rfl) (z_Smono (fun q hq => Or.inl hq) hSA) (by decide) dL_window_9 (fun H2 locs2 hO2 hz2 ho2 hS2 => ?_)
  refine lv_goto (tgt := 21) hx hb dL_window_10 (by decide) ?_
  refine z_iconst hx hb dL_window_21 ?_
  exact vx_ret (W.iret hx hb hr (z_endL (P := zLP D cO cL A eE o g σ (zth_window σ k t) (σ) (fun f => zth_window σ k t = 0 → f 0 = (zI (zan_window σ k t)).toInt64)) (v := some (.int (zI 0))) ⟨by rw [e1], ⟨g', e4, by rw [if_pos e1, ← e3]; exact (hRA.kept (fun q _ hq => ho2 q (fun z => hAo (by rw [← z]; exact hq))))⟩, _, hO2, fun _ => by simp [vp_updL]⟩ hS2) hS2.2.2 dL_window_22)

theorem ct_L_ofConference_32 : Cond.classLink RL 32 "java/lang/IndexOutOfBoundsException" ∈ wsL_ofConference := by decide +kernel
set_option maxRecDepth 100000 in
set_option maxHeartbeats 4000000 in
theorem c_L_ofConference (l : Launch) (hfl : l.stackTraces = false) (D : va_G) (cI cO cL : ClassId) (A : Nat → Prop) (eE mi : Nat) (sa : Nat → Nat) (o : Nat) (g : zG) (σ : zT) (H0 : Heap) (f0 : Nat → Int64) (hR : RX D cO A eE g σ H0) (h : zAll σ) (hO : va_at D vwCl (o, zOut cL f0) H0) (hAo : ¬ A o) (k w : Int) (hA : (-2147483648 ≤ k ∧ k < 2147483648) ∧ (-2147483648 ≤ w ∧ w < 2147483648)) : zLM l yL_ofConference wsL_ofConference ({ frames := 8, cells := 2, slots := 12, locals := 126 }) D cI cO cL A eE mi sa o [.ref (g 0 0), .int (zI k), .int (zI w), .ref o] H0 (zLP D cO cL A eE o g σ (zth_ofC σ k w) (σ) (fun f => zth_ofC σ k w = 0 → f 0 = (zI (zan_ofC σ k w)).toInt64)) := by
  refine vx_ofWH (cc := cL_ofConference) (maxL := 5) (ret := (some .int)) (hh := [(0, 10, 13, 32)]) (by decide) rfl ?_
  intro p e s m args below meth c s₁ B hml hv
  obtain ⟨rfl, hH, hG⟩ := hv
  subst hH
  have hK := hG.1.k
  have hx := B.exec
  have hb := B.bytes
  have hr := B.returns
  have hts := atoms_spec (ws := wsL_ofConference) B.pre
  have hown : s.vm.findClass RL = some m.cls := findClass_of_methodNamed B.named
  have hlocks := B.notSynchronized
  have htab := vx_table (x := yL_ofConference) B (hts _ List.mem_cons_self)
  have hl := lv_entry ([.ref (g 0 0), .int (zI k), .int (zI w), .ref o]) (n := 5) (Nat.le_of_ble_eq_true rfl)
  rw [lg_entry_eq]
  generalize (lg_sl ([.ref (g 0 0), .int (zI k), .int (zI w), .ref o]) ++ List.replicate (5 - (lg_sl ([.ref (g 0 0), .int (zI k), .int (zI w), .ref o])).length) Slot.unset).toArray = ls at hl ⊢
  have hl : lv_has ls 5 [(0, .ref (g 0 0)), (1, .int (zI k)), (2, .int (zI w)), (3, .ref o)] := hl
  refine lv_aload_n hx hb dL_ofConference_0 rfl (lv_at hl 3 rfl) ?_
  refine z_iconst hx hb dL_ofConference_1 ?_
  refine lv_aload_n hx hb dL_ofConference_2 rfl (lv_at hl 0 rfl) ?_
  refine lv_iload_n hx hb dL_ofConference_3 rfl (lv_at hl 1 rfl) ?_
  refine lv_iload_n hx hb dL_ofConference_4 rfl (lv_at hl 2 rfl) ?_
  refine z_xmV (As := [.int (zI k), .int (zI w)]) (rest := [.int (zI 0), .ref o]) ⟨hx, hb, hml, hown, hts⟩ (c_X4_ofConference l hfl D cI cO cL A eE mi sa g σ s.heap hR k w h.1 h.2.1 hA) (cwV 2 hts gL_ofConference_X4_ofConference rfl rfl rfl (by decide +kernel) ⟨(Nat.le_of_ble_eq_true rfl), (Nat.le_of_ble_eq_true rfl)⟩) hG.1 va_S.rf (z_recv hK hR.x rfl) rfl hl.1 rfl (Nat.le_of_ble_eq_true rfl) dL_ofConference_5 ⟨(Nat.le_of_ble_eq_true rfl), (Nat.le_of_ble_eq_true rfl)⟩ (fun E ce q9 H1 locs1 hpx hRx hzx hkx hSx hcx hvx hclx => ?_) (fun rv σ' g' HA locsA hpA hRA hzA hkA hSA => ?_)
  · obtain ⟨ht, rfl⟩ := hpx
    refine vx_catch (name := "java/lang/IndexOutOfBoundsException") hown [] ⟨0, 10, 13, 32⟩ [] (by rw [htab]; rfl) (fun z hz => nomatch hz) (by decide) (by decide) (hts _ ct_L_ofConference_32) (va_Nw.use rfl (hG.1.2.2.2.2.2.2.2.2.2.2.1 (xIO, xIO) (by decide))) hcx hvx hclx ?_
    refine lv_astore (lv' := [(4, .ref q9), (0, .ref (g 0 0)), (1, .int (zI k)), (2, .int (zI w)), (3, .ref o)]) hx hb dL_ofConference_13 hl (by decide) rfl (fun ls hl => ?_)
    refine z_iconst hx hb dL_ofConference_15 ?_
    exact vx_ret (W.iret hx hb hr (z_endL (P := zLP D cO cL A eE o g σ (zth_ofC σ k w) (σ) (fun f => zth_ofC σ k w = 0 → f 0 = (zI (zan_ofC σ k w)).toInt64)) (v := some (.int (zI 1))) ⟨by rw [ht], ⟨g, rfl, by rw [if_neg (by omega)]; exact hRx⟩, f0, hO.kept (hkx o (z_lt hO) hAo), fun z => by omega⟩ (z_Smono (fun q hq => Or.inl hq) hSx)) (fun q hq => Or.inl (hSx.2.2 q hq)) dL_ofConference_16)
  obtain ⟨⟨e1, e2, e3⟩, e4⟩ := hpA
  rw [e2]
  refine lv_i2l hx hb dL_ofConference_8 rfl ?_
  refine z_last (A := fun q => A q ∨ q = o) hx hb hK 2 (hO.kept (hkA o (z_lt hO) hAo)) rfl (Or.inr rfl) (z_Smono (fun q hq => Or.inl hq) hSA) (by decide) dL_ofConference_9 (fun H2 locs2 hO2 hz2 ho2 hS2 => ?_)
  refine lv_goto (tgt := 17) hx hb dL_ofConference_10 (by decide) ?_
  refine z_iconst hx hb dL_ofConference_17 ?_
  exact vx_ret (W.iret hx hb hr (z_endL (P := zLP D cO cL A eE o g σ (zth_ofC σ k w) (σ) (fun f => zth_ofC σ k w = 0 → f 0 = (zI (zan_ofC σ k w)).toInt64)) (v := some (.int (zI 0))) ⟨by rw [e1], ⟨g', e4, by rw [if_pos e1, ← e3]; exact (hRA.kept (fun q _ hq => ho2 q (fun z => hAo (by rw [← z]; exact hq))))⟩, _, hO2, fun _ => by simp [vp_updL]⟩ hS2) hS2.2.2 dL_ofConference_18)

theorem ct_L_why_32 : Cond.classLink RL 32 "java/lang/IndexOutOfBoundsException" ∈ wsL_why := by decide +kernel
theorem ct_L_why_13 : Cond.classLink RL 13 "java/lang/IllegalArgumentException" ∈ wsL_why := by decide +kernel
theorem ct_L_why_23 : Cond.classLink RL 23 "java/lang/IllegalStateException" ∈ wsL_why := by decide +kernel
set_option maxRecDepth 100000 in
set_option maxHeartbeats 4000000 in
theorem c_L_why (l : Launch) (hfl : l.stackTraces = false) (D : va_G) (cI cO cL : ClassId) (A : Nat → Prop) (eE mi : Nat) (sa : Nat → Nat) (o : Nat) (g : zG) (σ : zT) (H0 : Heap) (f0 : Nat → Int64) (hR : RX D cO A eE g σ H0) (h : zAll σ) (hO : va_at D vwCl (o, zOut cL f0) H0) (hAo : ¬ A o) (k t : Int) (hA : (-2147483648 ≤ k ∧ k < 2147483648) ∧ (-2147483648 ≤ t ∧ t < 2147483648)) : zLM l yL_why wsL_why ({ frames := 8, cells := 3, slots := 18, locals := 138 }) D cI cO cL A eE mi sa o [.ref (g 0 0), .int (zI k), .int (zI t), .ref o] H0 (zLP D cO cL A eE o g σ (zth_why σ k t) (σ) (fun f => zth_why σ k t = 0 → f 0 = (zI (zan_why σ k t)).toInt64)) := by
  refine vx_ofWH (cc := cL_why) (maxL := 5) (ret := (some .int)) (hh := [(0, 10, 13, 32), (0, 10, 17, 13), (0, 10, 21, 23)]) (by decide) rfl ?_
  intro p e s m args below meth c s₁ B hml hv
  obtain ⟨rfl, hH, hG⟩ := hv
  subst hH
  have hK := hG.1.k
  have hx := B.exec
  have hb := B.bytes
  have hr := B.returns
  have hts := atoms_spec (ws := wsL_why) B.pre
  have hown : s.vm.findClass RL = some m.cls := findClass_of_methodNamed B.named
  have hlocks := B.notSynchronized
  have htab := vx_table (x := yL_why) B (hts _ List.mem_cons_self)
  have hl := lv_entry ([.ref (g 0 0), .int (zI k), .int (zI t), .ref o]) (n := 5) (Nat.le_of_ble_eq_true rfl)
  rw [lg_entry_eq]
  generalize (lg_sl ([.ref (g 0 0), .int (zI k), .int (zI t), .ref o]) ++ List.replicate (5 - (lg_sl ([.ref (g 0 0), .int (zI k), .int (zI t), .ref o])).length) Slot.unset).toArray = ls at hl ⊢
  have hl : lv_has ls 5 [(0, .ref (g 0 0)), (1, .int (zI k)), (2, .int (zI t)), (3, .ref o)] := hl
  refine lv_aload_n hx hb dL_why_0 rfl (lv_at hl 3 rfl) ?_
  refine z_iconst hx hb dL_why_1 ?_
  refine lv_aload_n hx hb dL_why_2 rfl (lv_at hl 0 rfl) ?_
  refine lv_iload_n hx hb dL_why_3 rfl (lv_at hl 1 rfl) ?_
  refine lv_iload_n hx hb dL_why_4 rfl (lv_at hl 2 rfl) ?_
  refine z_xmV (As := [.int (zI k), .int (zI t)]) (rest := [.int (zI 0), .ref o]) ⟨hx, hb, hml, hown, hts⟩ (c_X4_why l hfl D cI cO cL A eE mi sa g σ s.heap hR k t h.1 hA) (cwV 2 hts gL_why_X4_why rfl rfl rfl (by decide +kernel) ⟨(Nat.le_of_ble_eq_true rfl), (Nat.le_of_ble_eq_true rfl)⟩) hG.1 va_S.rf (z_recv hK hR.x rfl) rfl hl.1 rfl (Nat.le_of_ble_eq_true rfl) dL_why_5 ⟨(Nat.le_of_ble_eq_true rfl), (Nat.le_of_ble_eq_true rfl)⟩ (fun E ce q9 H1 locs1 hpx hRx hzx hkx hSx hcx hvx hclx => ?_) (fun rv σ' g' HA locsA hpA hRA hzA hkA hSA => ?_)
  · rcases hpx with ⟨ht, rfl⟩ | ⟨ht, rfl⟩ | ⟨ht, rfl⟩
    · refine vx_catch (name := "java/lang/IndexOutOfBoundsException") hown [] ⟨0, 10, 13, 32⟩ [⟨0, 10, 17, 13⟩, ⟨0, 10, 21, 23⟩] (by rw [htab]; rfl) (fun z hz => nomatch hz) (by decide) (by decide) (hts _ ct_L_why_32) (va_Nw.use rfl (hG.1.2.2.2.2.2.2.2.2.2.2.1 (xIO, xIO) (by decide))) hcx hvx hclx ?_
      refine lv_astore (lv' := [(4, .ref q9), (0, .ref (g 0 0)), (1, .int (zI k)), (2, .int (zI t)), (3, .ref o)]) hx hb dL_why_13 hl (by decide) rfl (fun ls hl => ?_)
      refine z_iconst hx hb dL_why_15 ?_
      exact vx_ret (W.iret hx hb hr (z_endL (P := zLP D cO cL A eE o g σ (zth_why σ k t) (σ) (fun f => zth_why σ k t = 0 → f 0 = (zI (zan_why σ k t)).toInt64)) (v := some (.int (zI 1))) ⟨by rw [ht], ⟨g, rfl, by rw [if_neg (by omega)]; exact hRx⟩, f0, hO.kept (hkx o (z_lt hO) hAo), fun z => by omega⟩ (z_Smono (fun q hq => Or.inl hq) hSx)) (fun q hq => Or.inl (hSx.2.2 q hq)) dL_why_16)
    · refine vx_catch (name := "java/lang/IllegalArgumentException") hown [⟨0, 10, 13, 32⟩] ⟨0, 10, 17, 13⟩ [⟨0, 10, 21, 23⟩] (by rw [htab]; rfl) (fun z hz => by
          simp only [List.mem_cons, List.not_mem_nil, or_false] at hz
          subst hz; exact Or.inr ⟨by decide, "java/lang/IndexOutOfBoundsException", hts _ ct_L_why_32, hG.2 (xIA, xIO) (by decide)⟩) (by decide) (by decide) (hts _ ct_L_why_13) (va_Nw.use rfl (hG.1.2.2.2.2.2.2.2.2.2.2.1 (xIA, xIA) (by decide))) hcx hvx hclx ?_
      refine lv_astore (lv' := [(4, .ref q9), (0, .ref (g 0 0)), (1, .int (zI k)), (2, .int (zI t)), (3, .ref o)]) hx hb dL_why_17 hl (by decide) rfl (fun ls hl => ?_)
      refine z_iconst hx hb dL_why_19 ?_
      exact vx_ret (W.iret hx hb hr (z_endL (P := zLP D cO cL A eE o g σ (zth_why σ k t) (σ) (fun f => zth_why σ k t = 0 → f 0 = (zI (zan_why σ k t)).toInt64)) (v := some (.int (zI 2))) ⟨by rw [ht], ⟨g, rfl, by rw [if_neg (by omega)]; exact hRx⟩, f0, hO.kept (hkx o (z_lt hO) hAo), fun z => by omega⟩ (z_Smono (fun q hq => Or.inl hq) hSx)) (fun q hq => Or.inl (hSx.2.2 q hq)) dL_why_20)
    · refine vx_catch (name := "java/lang/IllegalStateException") hown [⟨0, 10, 13, 32⟩, ⟨0, 10, 17, 13⟩] ⟨0, 10, 21, 23⟩ [] (by rw [htab]; rfl) (fun z hz => by
          simp only [List.mem_cons, List.not_mem_nil, or_false] at hz
          rcases hz with rfl | rfl
          · exact Or.inr ⟨by decide, "java/lang/IndexOutOfBoundsException", hts _ ct_L_why_32, hG.2 (xIS, xIO) (by decide)⟩
          · exact Or.inr ⟨by decide, "java/lang/IllegalArgumentException", hts _ ct_L_why_13, hG.2 (xIS, xIA) (by decide)⟩) (by decide) (by decide) (hts _ ct_L_why_23) (va_Nw.use rfl (hG.1.2.2.2.2.2.2.2.2.2.2.1 (xIS, xIS) (by decide))) hcx hvx hclx ?_
      refine lv_astore (lv' := [(4, .ref q9), (0, .ref (g 0 0)), (1, .int (zI k)), (2, .int (zI t)), (3, .ref o)]) hx hb dL_why_21 hl (by decide) rfl (fun ls hl => ?_)
      refine z_iconst hx hb dL_why_23 ?_
      exact vx_ret (W.iret hx hb hr (z_endL (P := zLP D cO cL A eE o g σ (zth_why σ k t) (σ) (fun f => zth_why σ k t = 0 → f 0 = (zI (zan_why σ k t)).toInt64)) (v := some (.int (zI 3))) ⟨by rw [ht], ⟨g, rfl, by rw [if_neg (by omega)]; exact hRx⟩, f0, hO.kept (hkx o (z_lt hO) hAo), fun z => by omega⟩ (z_Smono (fun q hq => Or.inl hq) hSx)) (fun q hq => Or.inl (hSx.2.2 q hq)) dL_why_24)
  obtain ⟨⟨e1, e2, e3⟩, e4⟩ := hpA
  rw [e2]
  refine lv_i2l hx hb dL_why_8 rfl ?_
  refine z_last (A := fun q => A q ∨ q = o) hx hb hK 2 (hO.kept (hkA o (z_lt hO) hAo)) rfl (Or.inr rfl) (z_Smono (fun q hq => Or.inl hq) hSA) (by decide) dL_why_9 (fun H2 locs2 hO2 hz2 ho2 hS2 => ?_)
  refine lv_goto (tgt := 25) hx hb dL_why_10 (by decide) ?_
  refine z_iconst hx hb dL_why_25 ?_
  exact vx_ret (W.iret hx hb hr (z_endL (P := zLP D cO cL A eE o g σ (zth_why σ k t) (σ) (fun f => zth_why σ k t = 0 → f 0 = (zI (zan_why σ k t)).toInt64)) (v := some (.int (zI 0))) ⟨by rw [e1], ⟨g', e4, by rw [if_pos e1, ← e3]; exact (hRA.kept (fun q _ hq => ho2 q (fun z => hAo (by rw [← z]; exact hq))))⟩, _, hO2, fun _ => by simp [vp_updL]⟩ hS2) hS2.2.2 dL_why_26)

theorem ct_L_rested_32 : Cond.classLink RL 32 "java/lang/IndexOutOfBoundsException" ∈ wsL_rested := by decide +kernel
set_option maxRecDepth 100000 in
set_option maxHeartbeats 4000000 in
theorem c_L_rested (l : Launch) (hfl : l.stackTraces = false) (D : va_G) (cI cO cL : ClassId) (A : Nat → Prop) (eE mi : Nat) (sa : Nat → Nat) (o : Nat) (g : zG) (σ : zT) (H0 : Heap) (f0 : Nat → Int64) (hR : RX D cO A eE g σ H0) (h : zAll σ) (hO : va_at D vwCl (o, zOut cL f0) H0) (hAo : ¬ A o) (k : Int) (hA : (-2147483648 ≤ k ∧ k < 2147483648)) : zLM l yL_rested wsL_rested ({ frames := 8, cells := 1, slots := 6, locals := 124 }) D cI cO cL A eE mi sa o [.ref (g 0 0), .int (zI k), .ref o] H0 (zLP D cO cL A eE o g σ (zth_pil σ k) (σ) (fun f => zth_pil σ k = 0 → f 0 = (zI (zan_rested σ k)).toInt64)) := by
  refine vx_ofWH (cc := cL_rested) (maxL := 4) (ret := (some .int)) (hh := [(0, 9, 12, 32)]) (by decide) rfl ?_
  intro p e s m args below meth c s₁ B hml hv
  obtain ⟨rfl, hH, hG⟩ := hv
  subst hH
  have hK := hG.1.k
  have hx := B.exec
  have hb := B.bytes
  have hr := B.returns
  have hts := atoms_spec (ws := wsL_rested) B.pre
  have hown : s.vm.findClass RL = some m.cls := findClass_of_methodNamed B.named
  have hlocks := B.notSynchronized
  have htab := vx_table (x := yL_rested) B (hts _ List.mem_cons_self)
  have hl := lv_entry ([.ref (g 0 0), .int (zI k), .ref o]) (n := 4) (Nat.le_of_ble_eq_true rfl)
  rw [lg_entry_eq]
  generalize (lg_sl ([.ref (g 0 0), .int (zI k), .ref o]) ++ List.replicate (4 - (lg_sl ([.ref (g 0 0), .int (zI k), .ref o])).length) Slot.unset).toArray = ls at hl ⊢
  have hl : lv_has ls 4 [(0, .ref (g 0 0)), (1, .int (zI k)), (2, .ref o)] := hl
  refine lv_aload_n hx hb dL_rested_0 rfl (lv_at hl 2 rfl) ?_
  refine z_iconst hx hb dL_rested_1 ?_
  refine lv_aload_n hx hb dL_rested_2 rfl (lv_at hl 0 rfl) ?_
  refine lv_iload_n hx hb dL_rested_3 rfl (lv_at hl 1 rfl) ?_
  refine z_xmV (As := [.int (zI k)]) (rest := [.int (zI 0), .ref o]) ⟨hx, hb, hml, hown, hts⟩ (c_X4_rested l hfl D cI cO cL A eE mi sa g σ s.heap hR k h.1 hA) (cwV 1 hts gL_rested_X4_rested rfl rfl rfl (by decide +kernel) ⟨(Nat.le_of_ble_eq_true rfl), (Nat.le_of_ble_eq_true rfl)⟩) hG.1 va_S.rf (z_recv hK hR.x rfl) rfl hl.1 rfl (Nat.le_of_ble_eq_true rfl) dL_rested_4 ⟨(Nat.le_of_ble_eq_true rfl), (Nat.le_of_ble_eq_true rfl)⟩ (fun E ce q9 H1 locs1 hpx hRx hzx hkx hSx hcx hvx hclx => ?_) (fun rv σ' g' HA locsA hpA hRA hzA hkA hSA => ?_)
  · obtain ⟨ht, rfl⟩ := hpx
    refine vx_catch (name := "java/lang/IndexOutOfBoundsException") hown [] ⟨0, 9, 12, 32⟩ [] (by rw [htab]; rfl) (fun z hz => nomatch hz) (by decide) (by decide) (hts _ ct_L_rested_32) (va_Nw.use rfl (hG.1.2.2.2.2.2.2.2.2.2.2.1 (xIO, xIO) (by decide))) hcx hvx hclx ?_
    refine lv_astore_n (lv' := [(3, .ref q9), (0, .ref (g 0 0)), (1, .int (zI k)), (2, .ref o)]) hx hb dL_rested_12 rfl hl (by decide) rfl (fun ls hl => ?_)
    refine z_iconst hx hb dL_rested_13 ?_
    exact vx_ret (W.iret hx hb hr (z_endL (P := zLP D cO cL A eE o g σ (zth_pil σ k) (σ) (fun f => zth_pil σ k = 0 → f 0 = (zI (zan_rested σ k)).toInt64)) (v := some (.int (zI 1))) ⟨by rw [ht], ⟨g, rfl, by rw [if_neg (by omega)]; exact hRx⟩, f0, hO.kept (hkx o (z_lt hO) hAo), fun z => by omega⟩ (z_Smono (fun q hq => Or.inl hq) hSx)) (fun q hq => Or.inl (hSx.2.2 q hq)) dL_rested_14)
  obtain ⟨⟨e1, e2, e3⟩, e4⟩ := hpA
  rw [e2]
  refine lv_i2l hx hb dL_rested_7 rfl ?_
  refine z_last (A := fun q => A q ∨ q = o) hx hb hK 2 (hO.kept (hkA o (z_lt hO) hAo)) rfl (Or.inr rfl) (z_Smono (fun q hq => Or.inl hq) hSA) (by decide) dL_rested_8 (fun H2 locs2 hO2 hz2 ho2 hS2 => ?_)
  refine lv_goto (tgt := 15) hx hb dL_rested_9 (by decide) ?_
  refine z_iconst hx hb dL_rested_15 ?_
  exact vx_ret (W.iret hx hb hr (z_endL (P := zLP D cO cL A eE o g σ (zth_pil σ k) (σ) (fun f => zth_pil σ k = 0 → f 0 = (zI (zan_rested σ k)).toInt64)) (v := some (.int (zI 0))) ⟨by rw [e1], ⟨g', e4, by rw [if_pos e1, ← e3]; exact (hRA.kept (fun q _ hq => ho2 q (fun z => hAo (by rw [← z]; exact hq))))⟩, _, hO2, fun _ => by simp [vp_updL]⟩ hS2) hS2.2.2 dL_rested_16)

theorem ct_L_restedAnew_32 : Cond.classLink RL 32 "java/lang/IndexOutOfBoundsException" ∈ wsL_restedAnew := by decide +kernel
set_option maxRecDepth 100000 in
set_option maxHeartbeats 4000000 in
theorem c_L_restedAnew (l : Launch) (hfl : l.stackTraces = false) (D : va_G) (cI cO cL : ClassId) (A : Nat → Prop) (eE mi : Nat) (sa : Nat → Nat) (o : Nat) (g : zG) (σ : zT) (H0 : Heap) (f0 : Nat → Int64) (hR : RX D cO A eE g σ H0) (h : zAll σ) (hO : va_at D vwCl (o, zOut cL f0) H0) (hAo : ¬ A o) (k : Int) (hA : (-2147483648 ≤ k ∧ k < 2147483648)) : zLM l yL_restedAnew wsL_restedAnew ({ frames := 8, cells := 1, slots := 6, locals := 124 }) D cI cO cL A eE mi sa o [.ref (g 0 0), .int (zI k), .ref o] H0 (zLP D cO cL A eE o g σ (zth_pil σ k) (σ) (fun f => zth_pil σ k = 0 → f 0 = (zI (zan_rested σ k)).toInt64)) := by
  refine vx_ofWH (cc := cL_restedAnew) (maxL := 4) (ret := (some .int)) (hh := [(0, 9, 12, 32)]) (by decide) rfl ?_
  intro p e s m args below meth c s₁ B hml hv
  obtain ⟨rfl, hH, hG⟩ := hv
  subst hH
  have hK := hG.1.k
  have hx := B.exec
  have hb := B.bytes
  have hr := B.returns
  have hts := atoms_spec (ws := wsL_restedAnew) B.pre
  have hown : s.vm.findClass RL = some m.cls := findClass_of_methodNamed B.named
  have hlocks := B.notSynchronized
  have htab := vx_table (x := yL_restedAnew) B (hts _ List.mem_cons_self)
  have hl := lv_entry ([.ref (g 0 0), .int (zI k), .ref o]) (n := 4) (Nat.le_of_ble_eq_true rfl)
  rw [lg_entry_eq]
  generalize (lg_sl ([.ref (g 0 0), .int (zI k), .ref o]) ++ List.replicate (4 - (lg_sl ([.ref (g 0 0), .int (zI k), .ref o])).length) Slot.unset).toArray = ls at hl ⊢
  have hl : lv_has ls 4 [(0, .ref (g 0 0)), (1, .int (zI k)), (2, .ref o)] := hl
  refine lv_aload_n hx hb dL_restedAnew_0 rfl (lv_at hl 2 rfl) ?_
  refine z_iconst hx hb dL_restedAnew_1 ?_
  refine lv_aload_n hx hb dL_restedAnew_2 rfl (lv_at hl 0 rfl) ?_
  refine lv_iload_n hx hb dL_restedAnew_3 rfl (lv_at hl 1 rfl) ?_
  refine z_xmV (As := [.int (zI k)]) (rest := [.int (zI 0), .ref o]) ⟨hx, hb, hml, hown, hts⟩ (c_X4_restedAnew l hfl D cI cO cL A eE mi sa g σ s.heap hR k h.1 hA) (cwV 1 hts gL_restedAnew_X4_restedAnew rfl rfl rfl (by decide +kernel) ⟨(Nat.le_of_ble_eq_true rfl), (Nat.le_of_ble_eq_true rfl)⟩) hG.1 va_S.rf (z_recv hK hR.x rfl) rfl hl.1 rfl (Nat.le_of_ble_eq_true rfl) dL_restedAnew_4 ⟨(Nat.le_of_ble_eq_true rfl), (Nat.le_of_ble_eq_true rfl)⟩ (fun E ce q9 H1 locs1 hpx hRx hzx hkx hSx hcx hvx hclx => ?_) (fun rv σ' g' HA locsA hpA hRA hzA hkA hSA => ?_)
  · obtain ⟨ht, rfl⟩ := hpx
    refine vx_catch (name := "java/lang/IndexOutOfBoundsException") hown [] ⟨0, 9, 12, 32⟩ [] (by rw [htab]; rfl) (fun z hz => nomatch hz) (by decide) (by decide) (hts _ ct_L_restedAnew_32) (va_Nw.use rfl (hG.1.2.2.2.2.2.2.2.2.2.2.1 (xIO, xIO) (by decide))) hcx hvx hclx ?_
    refine lv_astore_n (lv' := [(3, .ref q9), (0, .ref (g 0 0)), (1, .int (zI k)), (2, .ref o)]) hx hb dL_restedAnew_12 rfl hl (by decide) rfl (fun ls hl => ?_)
    refine z_iconst hx hb dL_restedAnew_13 ?_
    exact vx_ret (W.iret hx hb hr (z_endL (P := zLP D cO cL A eE o g σ (zth_pil σ k) (σ) (fun f => zth_pil σ k = 0 → f 0 = (zI (zan_rested σ k)).toInt64)) (v := some (.int (zI 1))) ⟨by rw [ht], ⟨g, rfl, by rw [if_neg (by omega)]; exact hRx⟩, f0, hO.kept (hkx o (z_lt hO) hAo), fun z => by omega⟩ (z_Smono (fun q hq => Or.inl hq) hSx)) (fun q hq => Or.inl (hSx.2.2 q hq)) dL_restedAnew_14)
  obtain ⟨⟨e1, e2, e3⟩, e4⟩ := hpA
  rw [e2]
  refine lv_i2l hx hb dL_restedAnew_7 rfl ?_
  refine z_last (A := fun q => A q ∨ q = o) hx hb hK 2 (hO.kept (hkA o (z_lt hO) hAo)) rfl (Or.inr rfl) (z_Smono (fun q hq => Or.inl hq) hSA) (by decide) dL_restedAnew_8 (fun H2 locs2 hO2 hz2 ho2 hS2 => ?_)
  refine lv_goto (tgt := 15) hx hb dL_restedAnew_9 (by decide) ?_
  refine z_iconst hx hb dL_restedAnew_15 ?_
  exact vx_ret (W.iret hx hb hr (z_endL (P := zLP D cO cL A eE o g σ (zth_pil σ k) (σ) (fun f => zth_pil σ k = 0 → f 0 = (zI (zan_rested σ k)).toInt64)) (v := some (.int (zI 0))) ⟨by rw [e1], ⟨g', e4, by rw [if_pos e1, ← e3]; exact (hRA.kept (fun q _ hq => ho2 q (fun z => hAo (by rw [← z]; exact hq))))⟩, _, hO2, fun _ => by simp [vp_updL]⟩ hS2) hS2.2.2 dL_restedAnew_16)

theorem ct_L_bill_32 : Cond.classLink RL 32 "java/lang/IndexOutOfBoundsException" ∈ wsL_bill := by decide +kernel
set_option maxRecDepth 100000 in
set_option maxHeartbeats 4000000 in
theorem c_L_bill (l : Launch) (hfl : l.stackTraces = false) (D : va_G) (cI cO cL : ClassId) (A : Nat → Prop) (eE mi : Nat) (sa : Nat → Nat) (o : Nat) (g : zG) (σ : zT) (H0 : Heap) (f0 : Nat → Int64) (hR : RX D cO A eE g σ H0) (h : zAll σ) (hO : va_at D vwCl (o, zOut cL f0) H0) (hAo : ¬ A o) (k : Int) (hA : (-2147483648 ≤ k ∧ k < 2147483648)) : zLM l yL_bill wsL_bill ({ frames := 8, cells := 1, slots := 6, locals := 124 }) D cI cO cL A eE mi sa o [.ref (g 0 0), .int (zI k), .ref o] H0 (zLP D cO cL A eE o g σ (zth_bill σ k) (σ) (fun f => zth_bill σ k = 0 → f 0 = (zI (σ 10 k)).toInt64)) := by
  refine vx_ofWH (cc := cL_bill) (maxL := 4) (ret := (some .int)) (hh := [(0, 9, 12, 32)]) (by decide) rfl ?_
  intro p e s m args below meth c s₁ B hml hv
  obtain ⟨rfl, hH, hG⟩ := hv
  subst hH
  have hK := hG.1.k
  have hx := B.exec
  have hb := B.bytes
  have hr := B.returns
  have hts := atoms_spec (ws := wsL_bill) B.pre
  have hown : s.vm.findClass RL = some m.cls := findClass_of_methodNamed B.named
  have hlocks := B.notSynchronized
  have htab := vx_table (x := yL_bill) B (hts _ List.mem_cons_self)
  have hl := lv_entry ([.ref (g 0 0), .int (zI k), .ref o]) (n := 4) (Nat.le_of_ble_eq_true rfl)
  rw [lg_entry_eq]
  generalize (lg_sl ([.ref (g 0 0), .int (zI k), .ref o]) ++ List.replicate (4 - (lg_sl ([.ref (g 0 0), .int (zI k), .ref o])).length) Slot.unset).toArray = ls at hl ⊢
  have hl : lv_has ls 4 [(0, .ref (g 0 0)), (1, .int (zI k)), (2, .ref o)] := hl
  refine lv_aload_n hx hb dL_bill_0 rfl (lv_at hl 2 rfl) ?_
  refine z_iconst hx hb dL_bill_1 ?_
  refine lv_aload_n hx hb dL_bill_2 rfl (lv_at hl 0 rfl) ?_
  refine lv_iload_n hx hb dL_bill_3 rfl (lv_at hl 1 rfl) ?_
  refine z_xmV (As := [.int (zI k)]) (rest := [.int (zI 0), .ref o]) ⟨hx, hb, hml, hown, hts⟩ (c_X4_bill l hfl D cI cO cL A eE mi sa g σ s.heap hR k h.1 hA) (cwV 1 hts gL_bill_X4_bill rfl rfl rfl (by decide +kernel) ⟨(Nat.le_of_ble_eq_true rfl), (Nat.le_of_ble_eq_true rfl)⟩) hG.1 va_S.rf (z_recv hK hR.x rfl) rfl hl.1 rfl (Nat.le_of_ble_eq_true rfl) dL_bill_4 ⟨(Nat.le_of_ble_eq_true rfl), (Nat.le_of_ble_eq_true rfl)⟩ (fun E ce q9 H1 locs1 hpx hRx hzx hkx hSx hcx hvx hclx => ?_) (fun rv σ' g' HA locsA hpA hRA hzA hkA hSA => ?_)
  · obtain ⟨ht, rfl⟩ := hpx
    refine vx_catch (name := "java/lang/IndexOutOfBoundsException") hown [] ⟨0, 9, 12, 32⟩ [] (by rw [htab]; rfl) (fun z hz => nomatch hz) (by decide) (by decide) (hts _ ct_L_bill_32) (va_Nw.use rfl (hG.1.2.2.2.2.2.2.2.2.2.2.1 (xIO, xIO) (by decide))) hcx hvx hclx ?_
    refine lv_astore_n (lv' := [(3, .ref q9), (0, .ref (g 0 0)), (1, .int (zI k)), (2, .ref o)]) hx hb dL_bill_12 rfl hl (by decide) rfl (fun ls hl => ?_)
    refine z_iconst hx hb dL_bill_13 ?_
    exact vx_ret (W.iret hx hb hr (z_endL (P := zLP D cO cL A eE o g σ (zth_bill σ k) (σ) (fun f => zth_bill σ k = 0 → f 0 = (zI (σ 10 k)).toInt64)) (v := some (.int (zI 1))) ⟨by rw [ht], ⟨g, rfl, by rw [if_neg (by omega)]; exact hRx⟩, f0, hO.kept (hkx o (z_lt hO) hAo), fun z => by omega⟩ (z_Smono (fun q hq => Or.inl hq) hSx)) (fun q hq => Or.inl (hSx.2.2 q hq)) dL_bill_14)
  obtain ⟨⟨e1, e2, e3⟩, e4⟩ := hpA
  rw [e2]
  refine lv_i2l hx hb dL_bill_7 rfl ?_
  refine z_last (A := fun q => A q ∨ q = o) hx hb hK 2 (hO.kept (hkA o (z_lt hO) hAo)) rfl (Or.inr rfl) (z_Smono (fun q hq => Or.inl hq) hSA) (by decide) dL_bill_8 (fun H2 locs2 hO2 hz2 ho2 hS2 => ?_)
  refine lv_goto (tgt := 15) hx hb dL_bill_9 (by decide) ?_
  refine z_iconst hx hb dL_bill_15 ?_
  exact vx_ret (W.iret hx hb hr (z_endL (P := zLP D cO cL A eE o g σ (zth_bill σ k) (σ) (fun f => zth_bill σ k = 0 → f 0 = (zI (σ 10 k)).toInt64)) (v := some (.int (zI 0))) ⟨by rw [e1], ⟨g', e4, by rw [if_pos e1, ← e3]; exact (hRA.kept (fun q _ hq => ho2 q (fun z => hAo (by rw [← z]; exact hq))))⟩, _, hO2, fun _ => by simp [vp_updL]⟩ hS2) hS2.2.2 dL_bill_16)

theorem ct_L_ofPilot_32 : Cond.classLink RL 32 "java/lang/IndexOutOfBoundsException" ∈ wsL_ofPilot := by decide +kernel
set_option maxRecDepth 100000 in
set_option maxHeartbeats 4000000 in
theorem c_L_ofPilot (l : Launch) (hfl : l.stackTraces = false) (D : va_G) (cI cO cL : ClassId) (A : Nat → Prop) (eE mi : Nat) (sa : Nat → Nat) (o : Nat) (g : zG) (σ : zT) (H0 : Heap) (f0 : Nat → Int64) (hR : RX D cO A eE g σ H0) (h : zAll σ) (hO : va_at D vwCl (o, zOut cL f0) H0) (hAo : ¬ A o) (k w : Int) (hA : (-2147483648 ≤ k ∧ k < 2147483648) ∧ (-2147483648 ≤ w ∧ w < 2147483648)) : zLM l yL_ofPilot wsL_ofPilot ({ frames := 8, cells := 2, slots := 12, locals := 126 }) D cI cO cL A eE mi sa o [.ref (g 0 0), .int (zI k), .int (zI w), .ref o] H0 (zLP D cO cL A eE o g σ (zth_ofP σ k w) (σ) (fun f => zth_ofP σ k w = 0 → f 0 = (zI (zan_ofP σ k w)).toInt64)) := by
  refine vx_ofWH (cc := cL_ofPilot) (maxL := 5) (ret := (some .int)) (hh := [(0, 10, 13, 32)]) (by decide) rfl ?_
  intro p e s m args below meth c s₁ B hml hv
  obtain ⟨rfl, hH, hG⟩ := hv
  subst hH
  have hK := hG.1.k
  have hx := B.exec
  have hb := B.bytes
  have hr := B.returns
  have hts := atoms_spec (ws := wsL_ofPilot) B.pre
  have hown : s.vm.findClass RL = some m.cls := findClass_of_methodNamed B.named
  have hlocks := B.notSynchronized
  have htab := vx_table (x := yL_ofPilot) B (hts _ List.mem_cons_self)
  have hl := lv_entry ([.ref (g 0 0), .int (zI k), .int (zI w), .ref o]) (n := 5) (Nat.le_of_ble_eq_true rfl)
  rw [lg_entry_eq]
  generalize (lg_sl ([.ref (g 0 0), .int (zI k), .int (zI w), .ref o]) ++ List.replicate (5 - (lg_sl ([.ref (g 0 0), .int (zI k), .int (zI w), .ref o])).length) Slot.unset).toArray = ls at hl ⊢
  have hl : lv_has ls 5 [(0, .ref (g 0 0)), (1, .int (zI k)), (2, .int (zI w)), (3, .ref o)] := hl
  refine lv_aload_n hx hb dL_ofPilot_0 rfl (lv_at hl 3 rfl) ?_
  refine z_iconst hx hb dL_ofPilot_1 ?_
  refine lv_aload_n hx hb dL_ofPilot_2 rfl (lv_at hl 0 rfl) ?_
  refine lv_iload_n hx hb dL_ofPilot_3 rfl (lv_at hl 1 rfl) ?_
  refine lv_iload_n hx hb dL_ofPilot_4 rfl (lv_at hl 2 rfl) ?_
  refine z_xmV (As := [.int (zI k), .int (zI w)]) (rest := [.int (zI 0), .ref o]) ⟨hx, hb, hml, hown, hts⟩ (c_X4_ofPilot l hfl D cI cO cL A eE mi sa g σ s.heap hR k w h.1 h.2.2.1 hA) (cwV 2 hts gL_ofPilot_X4_ofPilot rfl rfl rfl (by decide +kernel) ⟨(Nat.le_of_ble_eq_true rfl), (Nat.le_of_ble_eq_true rfl)⟩) hG.1 va_S.rf (z_recv hK hR.x rfl) rfl hl.1 rfl (Nat.le_of_ble_eq_true rfl) dL_ofPilot_5 ⟨(Nat.le_of_ble_eq_true rfl), (Nat.le_of_ble_eq_true rfl)⟩ (fun E ce q9 H1 locs1 hpx hRx hzx hkx hSx hcx hvx hclx => ?_) (fun rv σ' g' HA locsA hpA hRA hzA hkA hSA => ?_)
  · obtain ⟨ht, rfl⟩ := hpx
    refine vx_catch (name := "java/lang/IndexOutOfBoundsException") hown [] ⟨0, 10, 13, 32⟩ [] (by rw [htab]; rfl) (fun z hz => nomatch hz) (by decide) (by decide) (hts _ ct_L_ofPilot_32) (va_Nw.use rfl (hG.1.2.2.2.2.2.2.2.2.2.2.1 (xIO, xIO) (by decide))) hcx hvx hclx ?_
    refine lv_astore (lv' := [(4, .ref q9), (0, .ref (g 0 0)), (1, .int (zI k)), (2, .int (zI w)), (3, .ref o)]) hx hb dL_ofPilot_13 hl (by decide) rfl (fun ls hl => ?_)
    refine z_iconst hx hb dL_ofPilot_15 ?_
    exact vx_ret (W.iret hx hb hr (z_endL (P := zLP D cO cL A eE o g σ (zth_ofP σ k w) (σ) (fun f => zth_ofP σ k w = 0 → f 0 = (zI (zan_ofP σ k w)).toInt64)) (v := some (.int (zI 1))) ⟨by rw [ht], ⟨g, rfl, by rw [if_neg (by omega)]; exact hRx⟩, f0, hO.kept (hkx o (z_lt hO) hAo), fun z => by omega⟩ (z_Smono (fun q hq => Or.inl hq) hSx)) (fun q hq => Or.inl (hSx.2.2 q hq)) dL_ofPilot_16)
  obtain ⟨⟨e1, e2, e3⟩, e4⟩ := hpA
  rw [e2]
  refine lv_i2l hx hb dL_ofPilot_8 rfl ?_
  refine z_last (A := fun q => A q ∨ q = o) hx hb hK 2 (hO.kept (hkA o (z_lt hO) hAo)) rfl (Or.inr rfl) (z_Smono (fun q hq => Or.inl hq) hSA) (by decide) dL_ofPilot_9 (fun H2 locs2 hO2 hz2 ho2 hS2 => ?_)
  refine lv_goto (tgt := 17) hx hb dL_ofPilot_10 (by decide) ?_
  refine z_iconst hx hb dL_ofPilot_17 ?_
  exact vx_ret (W.iret hx hb hr (z_endL (P := zLP D cO cL A eE o g σ (zth_ofP σ k w) (σ) (fun f => zth_ofP σ k w = 0 → f 0 = (zI (zan_ofP σ k w)).toInt64)) (v := some (.int (zI 0))) ⟨by rw [e1], ⟨g', e4, by rw [if_pos e1, ← e3]; exact (hRA.kept (fun q _ hq => ho2 q (fun z => hAo (by rw [← z]; exact hq))))⟩, _, hO2, fun _ => by simp [vp_updL]⟩ hS2) hS2.2.2 dL_ofPilot_18)

theorem ct_L_count_13 : Cond.classLink RL 13 "java/lang/IllegalArgumentException" ∈ wsL_count := by decide +kernel
set_option maxRecDepth 100000 in
set_option maxHeartbeats 4000000 in
theorem c_L_count (l : Launch) (hfl : l.stackTraces = false) (D : va_G) (cI cO cL : ClassId) (A : Nat → Prop) (eE mi : Nat) (sa : Nat → Nat) (o : Nat) (g : zG) (σ : zT) (H0 : Heap) (f0 : Nat → Int64) (hR : RX D cO A eE g σ H0) (h : zAll σ) (hO : va_at D vwCl (o, zOut cL f0) H0) (hAo : ¬ A o) (w : Int) (hA : (-2147483648 ≤ w ∧ w < 2147483648)) : zLM l yL_count wsL_count ({ frames := 8, cells := 1, slots := 6, locals := 125 }) D cI cO cL A eE mi sa o [.ref (g 0 0), .int (zI w), .ref o] H0 (zLP D cO cL A eE o g σ (zth_count w) (σ) (fun f => zth_count w = 0 → f 0 = (zI (zan_count σ w)).toInt64)) := by
  refine vx_ofWH (cc := cL_count) (maxL := 4) (ret := (some .int)) (hh := [(0, 9, 12, 13)]) (by decide) rfl ?_
  intro p e s m args below meth c s₁ B hml hv
  obtain ⟨rfl, hH, hG⟩ := hv
  subst hH
  have hK := hG.1.k
  have hx := B.exec
  have hb := B.bytes
  have hr := B.returns
  have hts := atoms_spec (ws := wsL_count) B.pre
  have hown : s.vm.findClass RL = some m.cls := findClass_of_methodNamed B.named
  have hlocks := B.notSynchronized
  have htab := vx_table (x := yL_count) B (hts _ List.mem_cons_self)
  have hl := lv_entry ([.ref (g 0 0), .int (zI w), .ref o]) (n := 4) (Nat.le_of_ble_eq_true rfl)
  rw [lg_entry_eq]
  generalize (lg_sl ([.ref (g 0 0), .int (zI w), .ref o]) ++ List.replicate (4 - (lg_sl ([.ref (g 0 0), .int (zI w), .ref o])).length) Slot.unset).toArray = ls at hl ⊢
  have hl : lv_has ls 4 [(0, .ref (g 0 0)), (1, .int (zI w)), (2, .ref o)] := hl
  refine lv_aload_n hx hb dL_count_0 rfl (lv_at hl 2 rfl) ?_
  refine z_iconst hx hb dL_count_1 ?_
  refine lv_aload_n hx hb dL_count_2 rfl (lv_at hl 0 rfl) ?_
  refine lv_iload_n hx hb dL_count_3 rfl (lv_at hl 1 rfl) ?_
  refine z_xmV (As := [.int (zI w)]) (rest := [.int (zI 0), .ref o]) ⟨hx, hb, hml, hown, hts⟩ (c_X4_count l hfl D cI cO cL A eE mi sa g σ s.heap hR w h.1 h.2.1 hA) (cwV 1 hts gL_count_X4_count rfl rfl rfl (by decide +kernel) ⟨(Nat.le_of_ble_eq_true rfl), (Nat.le_of_ble_eq_true rfl)⟩) hG.1 va_S.rf (z_recv hK hR.x rfl) rfl hl.1 rfl (Nat.le_of_ble_eq_true rfl) dL_count_4 ⟨(Nat.le_of_ble_eq_true rfl), (Nat.le_of_ble_eq_true rfl)⟩ (fun E ce q9 H1 locs1 hpx hRx hzx hkx hSx hcx hvx hclx => ?_) (fun rv σ' g' HA locsA hpA hRA hzA hkA hSA => ?_)
  · obtain ⟨ht, rfl⟩ := hpx
    refine vx_catch (name := "java/lang/IllegalArgumentException") hown [] ⟨0, 9, 12, 13⟩ [] (by rw [htab]; rfl) (fun z hz => nomatch hz) (by decide) (by decide) (hts _ ct_L_count_13) (va_Nw.use rfl (hG.1.2.2.2.2.2.2.2.2.2.2.1 (xIA, xIA) (by decide))) hcx hvx hclx ?_
    refine lv_astore_n (lv' := [(3, .ref q9), (0, .ref (g 0 0)), (1, .int (zI w)), (2, .ref o)]) hx hb dL_count_12 rfl hl (by decide) rfl (fun ls hl => ?_)
    refine z_iconst hx hb dL_count_13 ?_
    exact vx_ret (W.iret hx hb hr (z_endL (P := zLP D cO cL A eE o g σ (zth_count w) (σ) (fun f => zth_count w = 0 → f 0 = (zI (zan_count σ w)).toInt64)) (v := some (.int (zI 1))) ⟨by rw [ht], ⟨g, rfl, by rw [if_neg (by omega)]; exact hRx⟩, f0, hO.kept (hkx o (z_lt hO) hAo), fun z => by omega⟩ (z_Smono (fun q hq => Or.inl hq) hSx)) (fun q hq => Or.inl (hSx.2.2 q hq)) dL_count_14)
  obtain ⟨⟨e1, e2, e3⟩, e4⟩ := hpA
  rw [e2]
  refine lv_i2l hx hb dL_count_7 rfl ?_
  refine z_last (A := fun q => A q ∨ q = o) hx hb hK 2 (hO.kept (hkA o (z_lt hO) hAo)) rfl (Or.inr rfl) (z_Smono (fun q hq => Or.inl hq) hSA) (by decide) dL_count_8 (fun H2 locs2 hO2 hz2 ho2 hS2 => ?_)
  refine lv_goto (tgt := 15) hx hb dL_count_9 (by decide) ?_
  refine z_iconst hx hb dL_count_15 ?_
  exact vx_ret (W.iret hx hb hr (z_endL (P := zLP D cO cL A eE o g σ (zth_count w) (σ) (fun f => zth_count w = 0 → f 0 = (zI (zan_count σ w)).toInt64)) (v := some (.int (zI 0))) ⟨by rw [e1], ⟨g', e4, by rw [if_pos e1, ← e3]; exact (hRA.kept (fun q _ hq => ho2 q (fun z => hAo (by rw [← z]; exact hq))))⟩, _, hO2, fun _ => by simp [vp_updL]⟩ hS2) hS2.2.2 dL_count_16)
