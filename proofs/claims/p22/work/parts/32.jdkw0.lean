/-! the JDK's list: rows for what grows it -/
theorem z_Smono {A B : Nat → Prop} {H0 H : Heap} {locs : List Loc} (h : ∀ q, B q → A q) (hS : va_S B H0 H locs) : va_S A H0 H locs := ⟨hS.1, fun q h1 h2 => hS.2.1 q h1 (fun z => h2 (h q z)), fun q hq => h _ (hS.2.2 q hq)⟩
/-- an array of references -/
abbrev zQ (cO : ClassId) (n : Nat) (f : Nat → Option Nat) : va_E := .inl (cO, n, .inr (.inr (.inr (.inr f))))
theorem z_up_eq {f : Nat → Option Nat} {k : Nat} {v : Option Nat} : va_up f k v k = v := if_pos rfl
theorem z_up_ne {f : Nat → Option Nat} {k j : Nat} {v : Option Nat} (h : j ≠ k) : va_up f k v j = f j := if_neg h
def xIsE (D : va_G) (H : Heap) (v : Nat) : Prop := ∃ (ci : Nat) (fs : List Value), (ci = 1 ∨ ci = 2 ∨ ci = 3) ∧ va_at D vwCl (v, .inr (ci, fs)) H
section QW
variable {l : Launch} {p : Program} {e : Env} {R : Room} {s : State} {m : MethodId} {args : Array Value} {below : List Frame} {meth : Method} {c : Code} {H H0 : Heap} {locs : List Loc} {cells slots : Nat} {Q : State → Prop} {cc bytes : ByteArray} {pc nL maxL index n : Nat} {ls : Array Slot} {st0 rest As : List Value} {y : MethodName} {ret : Option FieldType} {ws : List Cond} {rm : Room} {Ts : List Cond} {own C : String} {D : va_G} {cI cO cL : ClassId} {A F : Nat → Prop} {eE b mi : Nat} {sa : Nat → Nat}
theorem x_any (hG : GK D cI cO cL A eE mi sa s) {v : Nat} (h : xIsE D H v) : va_Any "java/lang/Object" s H v := by
  obtain ⟨ci, fs, hci, ho⟩ := h
  have key : ∀ (r : vw_C), vwCl[ci]? = some r → (r.1, "java/lang/Object") ∈ xCas → va_Any "java/lang/Object" s H v := fun r hr hin => by
    obtain ⟨cell, g1, g2, g3⟩ := z_recv hG.1 ho hr
    obtain ⟨c0, t1, f1, f2, f3⟩ := Cond.castable_spec (va_Nw.use (A := #[]) rfl (hG.2.2.2.2.2.2.2.2.2.2.1 _ hin))
    obtain ⟨kC, hkC, -⟩ := Vm.findClass_spec g3
    refine ⟨cell, g1, g2, ⟨kC, hkC⟩, fun comp hc => ?_⟩
    cases Option.some.inj (f1.symm.trans g3)
    cases Option.some.inj (f2.symm.trans hc)
    exact f3
  rcases hci with q | q | q
  · subst q; exact key _ rfl (by decide)
  · subst q; exact key _ rfl (by decide)
  · subst q; exact key _ rfl (by decide)
theorem z_newq (hexec : p.tables.exec = Jvm.exec) (hb : c.code = cc) (hown : s.vm.findClass own = some m.cls) (hclink : (Cond.classLink own index "java/lang/Object").before args s = true) (hover : va_AO "java/lang/Object" s) (hK : zKK D cI cO cL s) (hS : va_S F H0 H locs) {k : Nat} (hk : k ≤ 1000) (hcells : cells + 1 ≤ R.cells) (hslots : slots + k ≤ R.slots) (hdg : decode cc pc = .ok (.anewarray index, 3))
    (kk : ∀ (H1 : Heap), va_at D vwCl (H.size, zQ cO k (fun _ => none)) H1 → H1.size = H.size + 1 → (∀ q : Nat, q < H.size → H1[q]? = H[q]?) → va_S F H0 H1 locs →
      W p l e R s m args below meth c H1 locs (cells + 1) (slots + k) Q (F0 m (pc + 3) ls (.ref H.size :: rest))) : W p l e R s m args below meth c H locs cells slots Q (F0 m pc ls (.int (zI (k : Int)) :: rest)) := by
  have hcl : (zI (k : Int)).toNatClampNeg = k := by rw [zI_clamp (by omega)]; exact Int.toNat_natCast k
  refine W.anew hexec hb hown hclink (va_AO.use hover) rfl hdg rfl (zI_nonneg (by omega)) (by rw [hcl]; omega) hcells (by rw [hcl]; exact hslots) fun cA kA comp f1 f2 f3 f4 => ?_
  rw [hcl]
  have e : cA = cO := by
    obtain ⟨kA2, comp2, g1, g2, g3, g4⟩ := (hK.2 1 (cO, .object "java/lang/Object") rfl).2
    exact Option.some.inj (f1.symm.trans g4)
  subst e
  generalize hH1 : H.push ({ cls := cA, slots := Array.replicate k .null, vm := .none } : Cell) = H1
  have z1 : H1.size = H.size + 1 := by rw [← hH1, Array.size_push]
  have e1 : H1[H.size]? = some (arrV cA k (fun _ => .null)) := by rw [← hH1, Array.getElem?_push_size, ← arrV_new]
  have o1 : ∀ q : Nat, q < H.size → H1[q]? = H[q]? := fun q hq => by rw [← hH1, Array.getElem?_push, if_neg (Nat.ne_of_lt hq)]
  refine kk H1 ?_ z1 o1 ⟨Nat.le_trans hS.1 (by omega), fun x h1 h2 => (o1 x (Nat.lt_of_lt_of_le h1 hS.1)).trans (hS.2.1 x h1 h2), hS.2.2⟩
  show H1[H.size]? = some (vp_cell _ _)
  rw [vp_cell_q]
  exact e1
theorem z_astq (hexec : p.tables.exec = Jvm.exec) (hb : c.code = cc) (hK : zKK D cI cO cL s) (hS : va_S F H0 H locs) {a v N : Nat} {f : Nat → Option Nat} (ha : va_at D vwCl (a, zQ cO N f) H) (hF : F a) (hr : va_Any "java/lang/Object" s H v) {i : Int} (hin : 0 ≤ i ∧ i < N ∧ i < 2147483648) (hdg : decode cc pc = .ok (.aastore, 1))
    (kk : ∀ (H1 : Heap) (locs1 : List Loc), va_at D vwCl (a, zQ cO N (va_up f i.toNat (some v))) H1 → H1.size = H.size → (∀ q : Nat, q ≠ a → H1[q]? = H[q]?) → va_S F H0 H1 locs1 → W p l e R s m args below meth c H1 locs1 cells slots Q (F0 m (pc + 1) ls rest)) : W p l e R s m args below meth c H locs cells slots Q (F0 m pc ls (.ref v :: .int (zI i) :: .ref a :: rest)) := by
  have hcl : (zI i).toNatClampNeg = i.toNat := zI_clamp (by omega)
  obtain ⟨cellV, g1, g3, ⟨kC, hkC⟩, hasg⟩ := hr
  obtain ⟨kA, comp, k1, k2, k3, -⟩ := (hK.2 1 (cO, .object "java/lang/Object") rfl).2
  obtain ⟨kE, hkE, -⟩ := Vm.findClass_spec k3
  refine W.aast hexec hb (show H[a]? = some (vp_cell cO (N, .inr (.inr (.inr (.inr f))))) from ha) (fun q h => by cases h) (fun h => by cases h) k1 k2 rfl hkE ⟨zI_nonneg (by omega), by show _ < (arrV _ _ _).slots.size; rw [arrV_size, hcl]; omega⟩ g1 (fun q h => by rw [h] at g3; cases g3) hkC (hasg _ k3) rfl rfl hdg fun H1 e z oq => ?_
  refine kk H1 _ ?_ z oq (hS.put z oq hF)
  show H1[a]? = some (vp_cell _ _)
  rw [e]
  rw [vp_cell_q, vp_cell_q, arrV_store, hcl]
  congr 2
  funext q
  by_cases hq : q = i.toNat
  · subst hq
    simp [updV, va_up, va_rf]
  · simp [updV, va_up, hq]
theorem z_alenE (hexec : p.tables.exec = Jvm.exec) (hb : c.code = cc) (hK : zKK D cI cO cL s) {a cap : Nat} {f : Nat → Option Nat} (hE : (cap = 0 ∧ a = eE) ∨ (0 < cap ∧ va_at D vwCl (a, zQ cO cap f) H)) (hEm : zEm cO eE H) (hdg : decode cc pc = .ok (.arraylength, 1))
    (kk : W p l e R s m args below meth c H locs cells slots Q (F0 m (pc + 1) ls (.int (zI (cap : Int)) :: rest))) : W p l e R s m args below meth c H locs cells slots Q (F0 m pc ls (.ref a :: rest)) := by
  rcases hE with ⟨h1, h2⟩ | ⟨h1, h2⟩
  · subst h1 h2
    obtain ⟨cell, g1, g2, g3, g4⟩ := hEm
    refine W.alen (n := zI ((0 : Nat) : Int)) (ty := .object "java/lang/Object") hexec hb g1 ⟨g4, ?_⟩ (g3.trans rfl) rfl rfl hdg kk
    obtain ⟨-, k, k1, k2⟩ := (hK.2 1 (cO, .object "java/lang/Object") rfl).1 0 (fun _ => .null)
    exact ⟨k, by rw [g2]; exact k1, k2⟩
  · exact z_alen hexec hb hK 1 h2 rfl hdg kk
/-- a method of the list: what it answers and leaves, said of the heap alone -/
def zGM (l : Launch) (y : MethodName) (ws : List Cond) (rm : Room) (D : va_G) (cI cO cL : ClassId) (A : Nat → Prop) (eE mi : Nat) (sa : Nat → Nat) (av : List Value) (H0 : Heap) (P : Option Value → Heap → Prop) (F : Nat → Prop) : Prop :=
  Met l y ws rm (va_Pc av (fun U => U.heap = H0 ∧ GK D cI cO cL A eE mi sa U)) (fun _ st o t => ∃ r, o = .returned r ∧ P r t.heap) rm.cells rm.slots F
theorem z_endP {P : Option Value → Heap → Prop} {v : Option Value} (h : P v H) : ∀ t : State, t.heap = H → s.WarmedH t.vm → ∃ r, Outcome.returned v = .returned r ∧ P r t.heap := fun t ht _ => ⟨v, rfl, by rw [ht]; exact h⟩
theorem z_gV {P : Option Value → Heap → Prop} (S : CallFix p m c cc nL s args Ts own) (hM : zGM l y ws rm D cI cO cL A eE mi sa (.ref b :: As) H P F) (cw : CallW R s args own C index y bytes maxL ret ws rm rm.cells rm.slots n) (hK : GK D cI cO cL A eE mi sa s) (hS : va_S A s.heap H locs) (hr : ∃ cellB : Cell, H[b]? = some cellB ∧ cellB.vm.isStatics = false ∧ s.vm.findClass C = some cellB.cls)
    (hn : As.length = n) (hsize : ls.size = nL) (hst : st0 = As.reverse ++ .ref b :: rest) (hW : (rest.map fun v => v.category).sum ≤ 8) (hdg : decode cc pc = .ok (.invokevirtual index, 3)) (hf : cells + rm.cells ≤ R.cells ∧ slots + rm.slots ≤ R.slots)
    (kk : ∀ (r : Option Value) (H1 : Heap) (L : List Loc), P r H1 → (∀ q ∈ L, F q.base) → W p l e R s m args below meth c H1 (locs ++ L) (cells + rm.cells) (slots + rm.slots) Q (F0 m (pc + 3) ls (r.toList ++ rest))) : W p l e R s m args below meth c H locs cells slots Q (F0 m pc ls st0) := by
  refine z_run (va_runV S hM cw ⟨fun a U g mk q => ⟨q.1, q.2.1, GK.same (u := U) (U := U.calling g mk a) rfl rfl q.2.2⟩, hr, fun U hU hWm => ⟨rfl, hU, hK.warm hWm (by rw [hU]; exact hS.1) (fun q h1 h2 => by rw [hU]; exact hS.2.1 q h1 h2)⟩⟩ rfl hn hsize hst (lv_room (pc := pc) (ls := ls) (rest := st0) (m := m) hW) hdg hf) (fun v st₀ t H1 L h0 h1 hv hq hL => ?_)
  obtain ⟨r, hr1, hp⟩ := hq
  cases hr1
  exact kk v H1 L (by rw [← h1]; exact hp) hL
theorem z_gS {P : Option Value → Heap → Prop} (S : CallFix p m c cc nL s args Ts own) (hM : zGM l y ws rm D cI cO cL A eE mi sa As H P F) (cw : CallB R s args own index y bytes maxL ret ws rm rm.cells rm.slots n ∧ (Cond.static y).before args s = true) (hK : GK D cI cO cL A eE mi sa s) (hS : va_S A s.heap H locs)
    (hn : As.length = n) (hsize : ls.size = nL) (hst : st0 = As.reverse ++ rest) (hW : (rest.map fun v => v.category).sum ≤ 8) (hdg : decode cc pc = .ok (.invokestatic index, 3)) (hf : cells + rm.cells ≤ R.cells ∧ slots + rm.slots ≤ R.slots)
    (kk : ∀ (r : Option Value) (H1 : Heap) (L : List Loc), P r H1 → (∀ q ∈ L, F q.base) → W p l e R s m args below meth c H1 (locs ++ L) (cells + rm.cells) (slots + rm.slots) Q (F0 m (pc + 3) ls (r.toList ++ rest))) : W p l e R s m args below meth c H locs cells slots Q (F0 m pc ls st0) := by
  refine z_run (va_runS S hM cw ⟨fun a U g mk q => ⟨q.1, q.2.1, GK.same (u := U) (U := U.calling g mk a) rfl rfl q.2.2⟩, fun U hU hWm => ⟨rfl, hU, hK.warm hWm (by rw [hU]; exact hS.1) (fun q h1 h2 => by rw [hU]; exact hS.2.1 q h1 h2)⟩⟩ rfl hn hsize hst (lv_room (pc := pc) (ls := ls) (rest := st0) (m := m) hW) hdg hf) (fun v st₀ t H1 L h0 h1 hv hq hL => ?_)
  obtain ⟨r, hr1, hp⟩ := hq
  cases hr1
  exact kk v H1 L (by rw [← h1]; exact hp) hL
theorem GK.sub {A B : Nat → Prop} {U : State} (h : ∀ q, B q → A q) (hu : ∀ q : Nat, U.heap.size ≤ q → B q) (hG : GK D cI cO cL A eE mi sa U) : GK D cI cO cL B eE mi sa U := by
  obtain ⟨h1, h2, h3, h4, h5, h6, h7, h8, h9, h10, h11, h12, h13⟩ := hG
  exact ⟨h1, h2.narrow h, h3, fun z => h4 (h _ z), hu, h6.narrow h, h7.narrow h, h8, h9, h10, h11, h12, h13⟩
end QW
theorem zI_max {x y : Int} : max x y = max x y := rfl
