/-! what the class's methods take of the machine: its classes, ArrayList's empty array, the statics of Throwable, the strings; throws -/
def xDec : List MethodName := [⟨"java/lang/RuntimeException", "<init>", "(Ljava/lang/String;)V"⟩, ⟨"java/lang/Exception", "<init>", "(Ljava/lang/String;)V"⟩, ⟨"java/lang/Throwable", "<init>", "(Ljava/lang/String;)V"⟩]
theorem x_bad1 : (vx_atS RX4 226 "java/lang/IllegalArgumentException" ["java/lang/RuntimeException", "java/lang/Exception"]).filter (fun w => !goodWord w) = xDec.map .declares ++ [.castable "java/lang/IllegalArgumentException" "java/lang/IllegalArgumentException"] := by decide +kernel
theorem x_bad2 : (vx_atS RX4 96 "java/lang/IllegalStateException" ["java/lang/RuntimeException", "java/lang/Exception"]).filter (fun w => !goodWord w) = xDec.map .declares ++ [.castable "java/lang/IllegalStateException" "java/lang/IllegalStateException"] := by decide +kernel
theorem x_bad3 : (vx_atS RX4 179 "java/lang/IndexOutOfBoundsException" ["java/lang/RuntimeException", "java/lang/Exception"]).filter (fun w => !goodWord w) = xDec.map .declares ++ [.castable "java/lang/IndexOutOfBoundsException" "java/lang/IndexOutOfBoundsException"] := by decide +kernel
def xCas : List (String × String) := [(RX0, "java/lang/Object"), (RX1, "java/lang/Object"), (RX2, "java/lang/Object"), ("java/lang/IllegalArgumentException", "java/lang/IllegalArgumentException"), ("java/lang/IllegalStateException", "java/lang/IllegalStateException"), ("java/lang/IndexOutOfBoundsException", "java/lang/IndexOutOfBoundsException")]
def xStr : List (Nat × String) := [(94, "in it already"), (109, "the licence does not do"), (128, "not JOINED"), (130, "not in it"), (132, "ABOARD or DONE"), (143, "above the last minute"), (177, "what is out of range"), (180, "no pilot is in it"), (224, "out of range"), (227, "no more room"), (229, "who is out of range"), (231, "no such ship"), (233, "no such pilot"), (235, "no such conference")]
/-- ArrayList's empty array: an array of objects with no cell -/
def zEm (cO : ClassId) (eE : Nat) (H : Heap) : Prop := ∃ cell : Cell, H[eE]? = some cell ∧ cell.cls = cO ∧ cell.slots.size.toInt32 = 0 ∧ ∀ k, cell.vm ≠ .statics k
theorem zEm.lt {cO : ClassId} {eE : Nat} {H : Heap} (h : zEm cO eE H) : eE < H.size := by
  obtain ⟨cell, h1, _⟩ := h
  exact (Array.getElem?_eq_some_iff.mp h1).1
theorem zEm.kept {cO : ClassId} {eE : Nat} {H H1 : Heap} (h : zEm cO eE H) (hq : H1[eE]? = H[eE]?) : zEm cO eE H1 := by
  obtain ⟨cell, h1, h2⟩ := h
  exact ⟨cell, by rw [hq]; exact h1, h2⟩
def GK (D : va_G) (cI cO cL : ClassId) (A : Nat → Prop) (eE mi : Nat) (sa : Nat → Nat) (U : State) : Prop :=
  zKK D cI cO cL U ∧ va_Z "java/util/ArrayList" "DEFAULTCAPACITY_EMPTY_ELEMENTDATA" "[Ljava/lang/Object;" (.ref eE) A U U.heap ∧ zEm cO eE U.heap ∧ ¬ A eE ∧ (∀ q : Nat, U.heap.size ≤ q → A q) ∧
  vx_Zq Bundle.tN "UNASSIGNED_STACK" Bundle.steD A U U.heap ∧ vx_Zq Bundle.tN "SUPPRESSED_SENTINEL" Bundle.listD A U U.heap ∧ va_AO "java/lang/Object" U ∧ va_Mi "[Ljava/lang/Object;" mi U ∧ va_Dc U ∧
  (∀ q ∈ xCas, va_Nw (.castable q.1 q.2) U) ∧ (va_Nw (.methodLinkNest RX4 9 yX3_init RX4) U ∧ ∀ q ∈ xDec, va_Nw (.declares q) U) ∧ ∀ q ∈ xStr, vk_R RX4 q.1 q.2 (sa q.1) U
section XK
variable {D : va_G} {cI cO cL : ClassId} {A : Nat → Prop} {eE mi : Nat} {sa : Nat → Nat}
theorem GK.same {u U : State} (hv : u.vm = U.vm) (hh : u.heap = U.heap) (h : GK D cI cO cL A eE mi sa u) : GK D cI cO cL A eE mi sa U := by
  have al : u.vm.Alike U.vm := by rw [hv]; exact Vm.Alike.refl _
  obtain ⟨h1, h2, h3, h4, h5, h6, h7, h8, h9, h10, h11, h12, h13⟩ := h
  rw [hh] at h2 h3 h5 h6 h7
  exact ⟨va_K.moved al h1, h2.moved al, h3, h4, h5, h6.moved al, h7.moved al, h8.moved al, h9.moved al, h10.moved al, fun q hq => va_Nw.same rfl hv (h11 q hq), ⟨va_Nw.same rfl hv h12.1, fun q hq => va_Nw.same rfl hv (h12.2 q hq)⟩, fun q hq => vk_R.same hv.symm (h13 q hq)⟩
theorem GK.warm {u U : State} (hW : u.WarmedH U.vm) (hz : u.heap.size ≤ U.heap.size) (hk : ∀ q : Nat, q < u.heap.size → ¬ A q → U.heap[q]? = u.heap[q]?) (h : GK D cI cO cL A eE mi sa u) : GK D cI cO cL A eE mi sa U := by
  have al : u.vm.Alike U.vm := hW.alike
  obtain ⟨h1, h2, h3, h4, h5, h6, h7, h8, h9, h10, h11, h12, h13⟩ := h
  exact ⟨va_K.moved al h1, (h2.kept hk).moved al, h3.kept (hk eE h3.lt h4), h4, fun q hq => h5 q (by omega), (h6.kept hk).moved al, (h7.kept hk).moved al, h8.moved al, h9.moved al, h10.moved al, fun q hq => va_Nw.warmC hW (h11 q hq), ⟨va_Nw.warmM hW h12.1, fun q hq => va_Nw.warmD hW (h12.2 q hq)⟩, fun q hq => vk_R.warm hW (h13 q hq)⟩
theorem GK.k {U : State} (h : GK D cI cO cL A eE mi sa U) : zKK D cI cO cL U := h.1
end XK
/-- a method of the class that may throw or allocate -/
def zXM (l : Launch) (y : MethodName) (ws : List Cond) (rm : Room) (D : va_G) (cI cO cL : ClassId) (A : Nat → Prop) (eE mi : Nat) (sa : Nat → Nat) (g : zG) (σ : zT) (av : List Value) (H0 : Heap) (post : Option Value → zT → zG → Prop) (px : String → Prop) : Prop :=
  vx_Met l y ws rm (va_Pc av (fun U => U.heap = H0 ∧ GK D cI cO cL A eE mi sa U)) (fun _ st o t => (∃ r σ' g', o = .returned r ∧ post r σ' g' ∧ RX D cO A eE g' σ' t.heap) ∧ va_F A st t) (fun E st t => (px E ∧ RX D cO A eE g σ t.heap) ∧ va_F A st t) rm.cells rm.slots A
section XM
variable {l : Launch} {p : Program} {e : Env} {R : Room} {s : State} {m : MethodId} {args : Array Value} {below : List Frame} {meth : Method} {c : Code} {H H0 : Heap} {locs : List Loc} {cells slots : Nat} {Q : State → Prop} {cc bytes : ByteArray} {pc nL maxL index n : Nat} {ls : Array Slot} {st0 rest As : List Value} {y : MethodName} {ret : Option FieldType} {ws : List Cond} {rm : Room} {Ts : List Cond} {own C : String} {D : va_G} {cI cO cL : ClassId} {A : Nat → Prop} {eE b mi : Nat} {sa : Nat → Nat} {g : zG} {σ : zT} {post : Option Value → zT → zG → Prop} {px : String → Prop}
theorem z_F {t : State} (hS : va_S A s.heap H locs) (ht : t.heap = H) : va_F A s t := ⟨by rw [ht]; exact hS.1, fun q h1 h2 => by rw [ht]; exact hS.2.1 q h1 h2⟩
/-- how such a method returns -/
theorem z_endG {v : Option Value} {σ' : zT} {g' : zG} (h : post v σ' g') (hR : RX D cO A eE g' σ' H) (hS : va_S A s.heap H locs) : ∀ t : State, t.heap = H → s.WarmedH t.vm → (∃ r σ' g', Outcome.returned v = .returned r ∧ post r σ' g' ∧ RX D cO A eE g' σ' t.heap) ∧ va_F A s t :=
  fun t ht _ => ⟨⟨v, σ', g', rfl, h, by rw [ht]; exact hR⟩, z_F hS ht⟩
theorem z_xrun {mc ms : Nat} {a : Array Value} (hr : vx_Run p l e R s m args below meth c H locs cells slots mc ms (F0 m pc ls st0) rest ((fun (_ : Array Value) st o t => (∃ r σ' g', o = Outcome.returned r ∧ post r σ' g' ∧ RX D cO A eE g' σ' t.heap) ∧ va_F A st t) a) (fun E st t => (px E ∧ RX D cO A eE g σ t.heap) ∧ va_F A st t) A) (hS : va_S A H0 H locs)
    (kx : ∀ (E : String) (ce : Cell) (q9 : Addr) (H1 : Heap) (locs1 : List Loc), px E → RX D cO A eE g σ H1 → H.size ≤ H1.size → (∀ q : Nat, q < H.size → ¬ A q → H1[q]? = H[q]?) → va_S A H0 H1 locs1 → H1[q9]? = some ce → ce.vm = .none → s.vm.findClass E = some ce.cls → vx_W p l e R s m args below meth c H1 locs1 (cells + mc) (slots + ms) Q (F0 m pc ls rest) q9)
    (kk : ∀ (r : Option Value) (σ' : zT) (g' : zG) (H1 : Heap) (locs1 : List Loc), post r σ' g' → RX D cO A eE g' σ' H1 → H.size ≤ H1.size → (∀ q : Nat, q < H.size → ¬ A q → H1[q]? = H[q]?) → va_S A H0 H1 locs1 → W p l e R s m args below meth c H1 locs1 (cells + mc) (slots + ms) Q (F0 m (pc + 3) ls (r.toList ++ rest))) : W p l e R s m args below meth c H locs cells slots Q (F0 m pc ls st0) := by
  intro T hT X
  rcases hr T hT X with ⟨v, st₀, t, T', L, h0, X', hL, e1, e2, ⟨⟨r, σ', g', hv, hp, hb⟩, hF⟩, st⟩ | ⟨q, st₀, t, T', L, E, ce, h0, X', hL, e1, e2, ⟨⟨hp, hb⟩, hF⟩, hce, hcv, hcl, st⟩
  · cases hv
    obtain ⟨k1, k2, k3⟩ := vx_keep h0 e1 hS (fun _ _ h => h) (fun _ h => h) hL hF
    obtain ⟨t2, a1, b1⟩ := kk v σ' g' T'.heap (locs ++ L) hp (by rw [e1]; exact hb) k1 k2 k3 T' rfl X'
    exact ⟨t2, st t2 a1, b1⟩
  · obtain ⟨k1, k2, k3⟩ := vx_keep h0 e1 hS (fun _ _ h => h) (fun _ h => h) hL hF
    obtain ⟨t2, a1, b1⟩ := kx E ce q T'.heap (locs ++ L) hp (by rw [e1]; exact hb) k1 k2 k3 (by rw [e1]; exact hce) hcv hcl T' rfl X'
    exact ⟨t2, st.trans a1, b1⟩
theorem z_xmV (S : CallFix p m c cc nL s args Ts own) (hM : zXM l y ws rm D cI cO cL A eE mi sa g σ (.ref b :: As) H post px) (cw : CallW R s args own C index y bytes maxL ret ws rm rm.cells rm.slots n) (hK : GK D cI cO cL A eE mi sa s) (hS : va_S A s.heap H locs) (hr : ∃ cellB : Cell, H[b]? = some cellB ∧ cellB.vm.isStatics = false ∧ s.vm.findClass C = some cellB.cls)
    (hn : As.length = n) (hsize : ls.size = nL) (hst : st0 = As.reverse ++ .ref b :: rest) (hW : (rest.map fun v => v.category).sum ≤ 8) (hdg : decode cc pc = .ok (.invokevirtual index, 3)) (hf : cells + rm.cells ≤ R.cells ∧ slots + rm.slots ≤ R.slots)
    (kx : ∀ (E : String) (ce : Cell) (q9 : Addr) (H1 : Heap) (locs1 : List Loc), px E → RX D cO A eE g σ H1 → H.size ≤ H1.size → (∀ q : Nat, q < H.size → ¬ A q → H1[q]? = H[q]?) → va_S A s.heap H1 locs1 → H1[q9]? = some ce → ce.vm = .none → s.vm.findClass E = some ce.cls → vx_W p l e R s m args below meth c H1 locs1 (cells + rm.cells) (slots + rm.slots) Q (F0 m pc ls rest) q9)
    (kk : ∀ (r : Option Value) (σ' : zT) (g' : zG) (H1 : Heap) (locs1 : List Loc), post r σ' g' → RX D cO A eE g' σ' H1 → H.size ≤ H1.size → (∀ q : Nat, q < H.size → ¬ A q → H1[q]? = H[q]?) → va_S A s.heap H1 locs1 → W p l e R s m args below meth c H1 locs1 (cells + rm.cells) (slots + rm.slots) Q (F0 m (pc + 3) ls (r.toList ++ rest))) : W p l e R s m args below meth c H locs cells slots Q (F0 m pc ls st0) :=
  z_xrun (a := (Value.ref b :: As).toArray) (vx_runV S hM cw ⟨fun a U g mk q => ⟨q.1, q.2.1, GK.same (u := U) (U := U.calling g mk a) rfl rfl q.2.2⟩, hr, fun U hU hWm => ⟨rfl, hU, hK.warm hWm (by rw [hU]; exact hS.1) (fun q h1 h2 => by rw [hU]; exact hS.2.1 q h1 h2)⟩⟩ rfl hn hsize hst (lv_room (pc := pc) (ls := ls) (rest := st0) (m := m) hW) hdg hf) hS kx kk
theorem z_xmS (S : CallFix p m c cc nL s args Ts own) (hM : zXM l y ws rm D cI cO cL A eE mi sa g σ As H post px) (cw : CallB R s args own index y bytes maxL ret ws rm rm.cells rm.slots n ∧ (Cond.static y).before args s = true) (hK : GK D cI cO cL A eE mi sa s) (hS : va_S A s.heap H locs)
    (hn : As.length = n) (hsize : ls.size = nL) (hst : st0 = As.reverse ++ rest) (hW : (rest.map fun v => v.category).sum ≤ 8) (hdg : decode cc pc = .ok (.invokestatic index, 3)) (hf : cells + rm.cells ≤ R.cells ∧ slots + rm.slots ≤ R.slots)
    (kx : ∀ (E : String) (ce : Cell) (q9 : Addr) (H1 : Heap) (locs1 : List Loc), px E → RX D cO A eE g σ H1 → H.size ≤ H1.size → (∀ q : Nat, q < H.size → ¬ A q → H1[q]? = H[q]?) → va_S A s.heap H1 locs1 → H1[q9]? = some ce → ce.vm = .none → s.vm.findClass E = some ce.cls → vx_W p l e R s m args below meth c H1 locs1 (cells + rm.cells) (slots + rm.slots) Q (F0 m pc ls rest) q9)
    (kk : ∀ (r : Option Value) (σ' : zT) (g' : zG) (H1 : Heap) (locs1 : List Loc), post r σ' g' → RX D cO A eE g' σ' H1 → H.size ≤ H1.size → (∀ q : Nat, q < H.size → ¬ A q → H1[q]? = H[q]?) → va_S A s.heap H1 locs1 → W p l e R s m args below meth c H1 locs1 (cells + rm.cells) (slots + rm.slots) Q (F0 m (pc + 3) ls (r.toList ++ rest))) : W p l e R s m args below meth c H locs cells slots Q (F0 m pc ls st0) :=
  z_xrun (a := As.toArray) (vx_runS S hM cw ⟨fun a U g mk q => ⟨q.1, q.2.1, GK.same (u := U) (U := U.calling g mk a) rfl rfl q.2.2⟩, fun U hU hWm => ⟨rfl, hU, hK.warm hWm (by rw [hU]; exact hS.1) (fun q h1 h2 => by rw [hU]; exact hS.2.1 q h1 h2)⟩⟩ rfl hn hsize hst (lv_room (pc := pc) (ls := ls) (rest := st0) (m := m) hW) hdg hf) hS kx kk
/-- a throw out of a callee goes on out of the caller -/
theorem z_xout {Qc : Array Value → State → Outcome → State → Prop} {px' : String → Prop} {E : String} {ce : Cell} {q9 : Addr} {mc ms : Nat} (hno : ∀ x ∈ c.exceptionTable.toList, False) (hlocks : meth.locks = false) (hcell : H[q9]? = some ce) (hv : ce.vm = .none) (hcl : s.vm.findClass E = some ce.cls) (hp : px' E) (hR : RX D cO A eE g σ H) (hS : va_S A s.heap H locs) (hc : cells ≤ mc ∧ slots ≤ ms) : vx_W p l e R s m args below meth c H locs cells slots (vx_MQ below Qc (fun E st t => (px' E ∧ RX D cO A eE g σ t.heap) ∧ va_F A st t) args s mc ms A) (F0 m pc ls rest) q9 :=
  vx_out (fun x hx => absurd (hno x hx) id) hlocks hcell hv hcl (fun t ht _ => ⟨⟨hp, by rw [ht]; exact hR⟩, z_F hS ht⟩) hS.2.2 hc.1 hc.2
/-- new X(text), thrown -/
theorem z_throw {Qc : Array Value → State → Outcome → State → Prop} {px : String → Prop} {mc ms ik is ic : Nat} {cls text : String} (hexec : p.tables.exec = Jvm.exec) (hb : c.code = cc) (hfl : l.stackTraces = false) (hno : ∀ x ∈ c.exceptionTable.toList, False) (hlocks : meth.locks = false) (hown : s.vm.findClass RX4 = some m.cls) (hts : ∀ w ∈ Ts, w.before args s = true) (hsize : ls.size = c.maxLocals)
    (hcls : Bundle.fit cls = true) (hnames : ∀ n ∈ ["java/lang/RuntimeException", "java/lang/Exception"], Bundle.fit n = true) (hk : Cond.classLink RX4 ik cls ∈ Ts) (hini : Cond.initialized cls ∈ Ts) (hwords : ∀ w ∈ (vx_atS RX4 ic cls ["java/lang/RuntimeException", "java/lang/Exception"]).filter goodWord, w ∈ Ts) (hbad : (vx_atS RX4 ic cls ["java/lang/RuntimeException", "java/lang/Exception"]).filter (fun w => !goodWord w) = xDec.map .declares ++ [.castable cls cls]) (hcas : (cls, cls) ∈ xCas) (hstr : (is, text) ∈ xStr)
    (hgood : ∀ w ∈ Cond.classLink RX4 ik cls :: Cond.initialized cls :: vx_atS RX4 ic cls ["java/lang/RuntimeException", "java/lang/Exception"], vx_ot w = true)
    (hG : GK D cI cO cL A eE mi sa s) (hR : RX D cO A eE g σ H) (hS : va_S A s.heap H locs) (hp : px cls)
    (d0 : decode cc pc = .ok (.new ik, 3)) (d3 : decode cc (pc + 3) = .ok (.dup, 1)) (d4 : decode cc (pc + 4) = .ok (.ldc is, 2)) (d6 : decode cc (pc + 6) = .ok (.invokespecial ic, 3)) (d9 : decode cc (pc + 9) = .ok (.athrow, 1))
    (hroom : 5 < R.frames ∧ (rest.map fun v => v.category).sum + 82 ≤ R.locals ∧ cells + 1 ≤ R.cells ∧ slots + 6 ≤ R.slots ∧ cells + 1 ≤ mc ∧ slots + 6 ≤ ms) :
    W p l e R s m args below meth c H locs cells slots (vx_MQ below Qc (fun E st t => (px E ∧ RX D cO A eE g σ t.heap) ∧ va_F A st t) args s mc ms A) (F0 m pc ls rest) := by
  obtain ⟨h1, h2, h3, h4, h5, h6, h7, h8, h9, h10, h11, h12, h13⟩ := hG
  refine vx_throwS hexec hb hfl hown hcls hnames (hts _ hk) (hts _ hini) (h13 _ hstr) (vx_hat (B := xDec.map .declares ++ [.castable cls cls]) (fun w hw => hts w (hwords w hw)) (fun w hw => by rw [hbad] at hw; exact hw) (fun w hw => ?_)) hgood h6 h7 hS hsize d0 d3 d4 d6 d9 (fun x hx => absurd (hno x hx) id) hroom.1 hroom.2.1 hroom.2.2.1 hroom.2.2.2.1 hlocks (fun t _ h9 h10 => ⟨⟨hp, hR.kept (fun q hq _ => h10 q hq)⟩, ⟨Nat.le_trans hS.1 h9, fun q a b => (h10 q (Nat.lt_of_lt_of_le a hS.1)).trans (hS.2.1 q a b)⟩⟩) hS.2.2 hroom.2.2.2.2.1 hroom.2.2.2.2.2
  rcases List.mem_append.mp hw with hw | hw
  · obtain ⟨q, hq, rfl⟩ := List.mem_map.mp hw
    exact va_Nw.use rfl (h12.2 q hq)
  · rw [List.mem_singleton.mp hw]
    exact va_Nw.use rfl (h11 _ hcas)
end XM
