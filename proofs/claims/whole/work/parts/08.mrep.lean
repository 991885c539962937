/-! the REFERENCE's cells: one object, thirteen rows of numbers -/
def isA (t : Nat) : Bool := match t with
  | 6 => true | 7 => true | 8 => true | 9 => true | 10 => true | 12 => true | 13 => true | 15 => true | 16 => true | 17 => true | 18 => true | 19 => true | 20 => true
  | _ => false
def aL (t : Nat) : Nat := match t with
  | 6 => 12 | 7 => 12 | 8 => 12 | 9 => 12 | 10 => 12 | 12 => 8 | 13 => 8
  | _ => 40
abbrev zTy (cI cO cL : ClassId) : List (ClassId × FieldType) := [(cI, .int), (cO, .object "java/lang/Object"), (cL, .long)]
abbrev zKK (D : va_G) (cI cO cL : ClassId) (U : State) : Prop := va_K D vwCl (zTy cI cO cL) U
theorem zKK_mv (D : va_G) (cI cO cL : ClassId) : zMove (zKK D cI cO cL) := fun _ _ h _ k => va_K.moved h k
abbrev mfs (ma : Nat → Nat) (σ : zT) : List Value := [.int (zI (σ 0 0)), .int (zI (σ 1 0)), .int (zI (σ 2 0)), .int (zI (σ 3 0)), .int (zI (σ 4 0)), .int (zI (σ 5 0)), .ref (ma 6), .ref (ma 7), .ref (ma 8), .ref (ma 9), .ref (ma 10), .int (zI (σ 11 0)), .ref (ma 12), .ref (ma 13), .int (zI (σ 14 0)), .ref (ma 15), .ref (ma 16), .ref (ma 17), .ref (ma 18), .ref (ma 19), .ref (ma 20), .int (zI (σ 21 0))]
def RM (D : va_G) (cI : ClassId) (b : Nat) (ma : Nat → Nat) (σ : zT) (H : Heap) : Prop :=
  va_at D vwCl (b, .inr (6, mfs ma σ)) H ∧ ∀ t, isA t = true → va_at D vwCl (ma t, .inl (cI, aL t, .inl (fun j => zI (σ t j)))) H
/-- its addresses are apart -/
def MA (b : Nat) (ma : Nat → Nat) : Prop := (∀ t, isA t = true → ma t ≠ b) ∧ ∀ t u, isA t = true → isA u = true → ma t = ma u → t = u
def AM (b : Nat) (ma : Nat → Nat) : Nat → Prop := fun q => q = b ∨ ∃ t, isA t = true ∧ q = ma t
theorem RM.kept {D : va_G} {cI : ClassId} {b : Nat} {ma : Nat → Nat} {σ : zT} {H H1 : Heap} (h : RM D cI b ma σ H) (hq : ∀ q, AM b ma q → H1[q]? = H[q]?) : RM D cI b ma σ H1 :=
  ⟨h.1.kept (hq b (Or.inl rfl)), fun t ht => (h.2 t ht).kept (hq _ (Or.inr ⟨t, ht, rfl⟩))⟩
/-- it speaks of the rows' own places alone -/
theorem RM.to {D : va_G} {cI : ClassId} {b : Nat} {ma : Nat → Nat} {σ σ' : zT} {H : Heap} (h : RM D cI b ma σ H) (h1 : mfs ma σ = mfs ma σ') (h2 : ∀ t, isA t = true → ∀ j : Int, 0 ≤ j → j < aL t → σ t j = σ' t j) : RM D cI b ma σ' H := by
  refine ⟨by rw [← h1]; exact h.1, fun t ht => ?_⟩
  have h3 := h.2 t ht
  show H[ma t]? = some (vp_cell _ _)
  rw [show H[ma t]? = some (vp_cell cI (aL t, .inl (fun j => zI (σ t j)))) from h3, vp_cell_i, vp_cell_i]
  congr 1
  exact zArr_ext (fun j hj => by rw [h2 t ht j (by omega) (by omega)])
section ZM
variable {p : Program} {l : Launch} {e : Env} {R : Room} {s : State} {m : MethodId} {args : Array Value} {below : List Frame} {meth : Method} {c : Code} {H : Heap} {locs : List Loc} {cells slots : Nat} {Q : State → Prop}
variable {cc : ByteArray} {pc : Nat} {ls : Array Slot} {rest : List Value} {D : va_G} {cI cO cL : ClassId} {b : Nat} {ma : Nat → Nat} {σ : zT} {H0 : Heap} {Ts : List Cond}
theorem m_get (hexec : p.tables.exec = Jvm.exec) (hb : c.code = cc) (hts : ∀ w ∈ Ts, w.before args s = true) (hin : ∀ w ∈ wsX50, w ∈ Ts) (hown : s.vm.findClass RX5 = some m.cls) (hK : zKK D cI cO cL s) (hR : RM D cI b ma σ H) (t : Nat) (ht : t < 22) {index : Nat} (hlink : (Cond.fieldLink RX5 index "HarbourPilotlineModel" (TX5 t).2.1 (TX5 t).2.2.1) ∈ Ts) (hsame : (TX5 t).1 = "HarbourPilotlineModel") {v : Value} (hv : (mfs ma σ)[t]? = some v) (hdg : decode cc pc = .ok (.getfield index, 3))
    (kk : W p l e R s m args below meth c H locs cells slots Q (F0 m (pc + 3) ls (v :: rest))) : W p l e R s m args below meth c H locs cells slots Q (F0 m pc ls (.ref b :: rest)) :=
  z_get hexec hb hts hin hown hK hR.1 rfl t ht hlink hsame hv hdg kk
theorem m_ald (hexec : p.tables.exec = Jvm.exec) (hb : c.code = cc) (hK : zKK D cI cO cL s) (hR : RM D cI b ma σ H) (t : Nat) (ht : isA t = true) {i : Int} (h : 0 ≤ i ∧ i < aL t) (hdg : decode cc pc = .ok (.iaload, 1))
    (kk : W p l e R s m args below meth c H locs cells slots Q (F0 m (pc + 1) ls (.int (zI (σ t i)) :: rest))) : W p l e R s m args below meth c H locs cells slots Q (F0 m pc ls (.int (zI i) :: .ref (ma t) :: rest)) := by
  have hl : aL t ≤ 40 := by unfold aL; split <;> omega
  refine z_iald hexec hb hK 0 (hR.2 t ht) rfl (by omega) hdg ?_
  rw [show ((i.toNat : Nat) : Int) = i by omega]
  exact kk
theorem m_ast (hexec : p.tables.exec = Jvm.exec) (hb : c.code = cc) (hK : zKK D cI cO cL s) (hR : RM D cI b ma σ H) (hM : MA b ma) (hS : va_S (AM b ma) H0 H locs) (t : Nat) (ht : isA t = true) {i v : Int} (h : 0 ≤ i ∧ i < aL t) (hdg : decode cc pc = .ok (.iastore, 1))
    (kk : ∀ (H1 : Heap) (locs1 : List Loc), RM D cI b ma (zup σ t i v) H1 → H1.size = H.size → va_S (AM b ma) H0 H1 locs1 → W p l e R s m args below meth c H1 locs1 cells slots Q (F0 m (pc + 1) ls rest)) : W p l e R s m args below meth c H locs cells slots Q (F0 m pc ls (.int (zI v) :: .int (zI i) :: .ref (ma t) :: rest)) := by
  have hl : aL t ≤ 40 := by unfold aL; split <;> omega
  refine z_iast hexec hb hK 0 (hR.2 t ht) rfl (Or.inr ⟨t, ht, rfl⟩) hS (by omega) hdg (fun H1 locs1 ha hz hq hS1 => kk H1 locs1 ⟨?_, fun u hu => ?_⟩ hz hS1)
  · have e : mfs ma (zup σ t i v) = mfs ma σ := by
      have hne : ∀ k, isA k = false → ∀ j, zup σ t i v k j = σ k j := fun k hk j => zup_t (fun q => by rw [q, ht] at hk; cases hk)
      simp only [mfs, hne 0 rfl, hne 1 rfl, hne 2 rfl, hne 3 rfl, hne 4 rfl, hne 5 rfl, hne 11 rfl, hne 14 rfl, hne 21 rfl]
    rw [e]
    exact hR.1.kept (hq b (fun q => hM.1 t ht q.symm))
  · by_cases hut : u = t
    · subst hut
      have e : (fun j : Nat => zI (zup σ u i v u (j : Int))) = upd (fun j : Nat => zI (σ u (j : Int))) i.toNat (zI v) := by
        funext j
        by_cases hj : j = i.toNat
        · rw [hj, show ((i.toNat : Nat) : Int) = i by omega, zup_s]; simp [upd]
        · rw [zup_i (by omega)]; simp [upd, hj]
      rw [e]
      exact ha
    · have e : (fun j : Nat => zI (zup σ t i v u (j : Int))) = (fun j : Nat => zI (σ u (j : Int))) := by
        funext j
        rw [zup_t hut]
      rw [e]
      exact (hR.2 u hu).kept (hq _ (fun q => hut (hM.2 u t hu ht q)))
theorem m_put (hexec : p.tables.exec = Jvm.exec) (hb : c.code = cc) (hts : ∀ w ∈ Ts, w.before args s = true) (hin : ∀ w ∈ wsX50, w ∈ Ts) (hown : s.vm.findClass RX5 = some m.cls) (hK : zKK D cI cO cL s) (hR : RM D cI b ma σ H) (hM : MA b ma) (hS : va_S (AM b ma) H0 H locs) (t : Nat) (ht : t < 22) (hta : isA t = false) {index : Nat} (hlink : (Cond.fieldLink RX5 index "HarbourPilotlineModel" (TX5 t).2.1 (TX5 t).2.2.1) ∈ Ts) (hsame : (TX5 t).1 = "HarbourPilotlineModel") (hfin : (TX5 t).2.2.2 = false) {v : Int} (hty : tyX5 t = .int) (hset : (mfs ma σ).set t (.int (zI v)) = mfs ma (zup σ t 0 v)) (hdg : decode cc pc = .ok (.putfield index, 3))
    (kk : ∀ (H1 : Heap) (locs1 : List Loc), RM D cI b ma (zup σ t 0 v) H1 → H1.size = H.size → va_S (AM b ma) H0 H1 locs1 → W p l e R s m args below meth c H1 locs1 cells slots Q (F0 m (pc + 3) ls rest)) : W p l e R s m args below meth c H locs cells slots Q (F0 m pc ls (.int (zI v) :: .ref b :: rest)) := by
  refine z_put hexec hb hts hin tyX5 tyX5_ok nmX5 hown hK hR.1 (Or.inl rfl) hS rfl t ht hlink hsame hfin (by rw [hty]; rfl) (by rw [hty]; rfl) (show t < 22 from ht) hdg (fun H1 locs1 ha hz hq hS1 => kk H1 locs1 ⟨by rw [← hset]; exact ha, fun u hu => ?_⟩ hz hS1)
  have e : (fun j : Nat => zI (zup σ t 0 v u (j : Int))) = (fun j : Nat => zI (σ u (j : Int))) := by
    funext j
    rw [zup_t (fun q => by rw [q, hta] at hu; cases hu)]
  rw [e]
  exact (hR.2 u hu).kept (hq _ (hM.1 u hu))
theorem m_recv (hK : zKK D cI cO cL s) (hR : RM D cI b ma σ H) : ∃ cellB : Cell, H[b]? = some cellB ∧ cellB.vm.isStatics = false ∧ s.vm.findClass RX5 = some cellB.cls := z_recv hK hR.1 rfl
end ZM
/-- a writer of the reference: its answer, the new table, nothing else -/
def zWM (l : Launch) (y : MethodName) (ws : List Cond) (rm : Room) (D : va_G) (cI cO cL : ClassId) (b : Nat) (ma : Nat → Nat) (av : List Value) (H0 : Heap) (post : Option Value → zT → Prop) : Prop :=
  Met l y ws rm (va_Pc av (fun U => U.heap = H0 ∧ zKK D cI cO cL U)) (fun _ st o t => (∃ r σ', o = .returned r ∧ post r σ' ∧ RM D cI b ma σ' t.heap) ∧ t.heap.size = st.heap.size ∧ ∀ q : Nat, q < st.heap.size → ¬ AM b ma q → t.heap[q]? = st.heap[q]?) 0 0 (AM b ma)
theorem z_endM {D : va_G} {cI : ClassId} {b : Nat} {ma : Nat → Nat} {s : State} {H : Heap} {locs : List Loc} {σ' : zT} {post : Option Value → zT → Prop} {v : Option Value} (h : post v σ') (hR : RM D cI b ma σ' H) (hz : H.size = s.heap.size) (hS : va_S (AM b ma) s.heap H locs) : ∀ t : State, t.heap = H → s.WarmedH t.vm → (∃ r σ', Outcome.returned v = .returned r ∧ post r σ' ∧ RM D cI b ma σ' t.heap) ∧ t.heap.size = s.heap.size ∧ ∀ q : Nat, q < s.heap.size → ¬ AM b ma q → t.heap[q]? = s.heap[q]? :=
  fun t ht _ => ⟨⟨v, σ', rfl, h, by rw [ht]; exact hR⟩, by rw [ht]; exact hz, fun q h1 h2 => by rw [ht]; exact hS.2.1 q h1 h2⟩
/-- a call of such a writer -/
theorem z_wm {l : Launch} {p : Program} {e : Env} {R : Room} {s : State} {m : MethodId} {args : Array Value} {below : List Frame} {meth : Method} {c : Code} {H H0 : Heap} {locs : List Loc} {cells slots : Nat} {Q : State → Prop} {cc bytes : ByteArray} {pc nL maxL index n : Nat} {ls : Array Slot} {st0 rest As : List Value} {y : MethodName} {ret : Option FieldType} {ws : List Cond} {rm : Room} {Ts : List Cond} {own C : String} {D : va_G} {cI cO cL : ClassId} {b : Nat} {ma : Nat → Nat} {post : Option Value → zT → Prop}
    (S : CallFix p m c cc nL s args Ts own) (hM : zWM l y ws rm D cI cO cL b ma (.ref b :: As) H post) (cw : CallW R s args own C index y bytes maxL ret ws rm 0 0 n) (hK : zKK D cI cO cL s) (hS : va_S (AM b ma) H0 H locs) (hr : ∃ cellB : Cell, H[b]? = some cellB ∧ cellB.vm.isStatics = false ∧ s.vm.findClass C = some cellB.cls)
    (hn : As.length = n) (hsize : ls.size = nL) (hst : st0 = As.reverse ++ .ref b :: rest) (hW : (rest.map fun v => v.category).sum ≤ 8) (hdg : decode cc pc = .ok (.invokevirtual index, 3)) (hf : cells ≤ R.cells ∧ slots ≤ R.slots)
    (kk : ∀ (r : Option Value) (σ' : zT) (H1 : Heap) (locs1 : List Loc), post r σ' → RM D cI b ma σ' H1 → H1.size = H.size → va_S (AM b ma) H0 H1 locs1 → W p l e R s m args below meth c H1 locs1 cells slots Q (F0 m (pc + 3) ls (r.toList ++ rest))) : W p l e R s m args below meth c H locs cells slots Q (F0 m pc ls st0) := by
  refine z_run (va_runV S hM cw ⟨fun a U g mk q => ⟨q.1, q.2.1, va_K.moved (u := U) (U := U.calling g mk a) (Vm.Alike.refl U.vm) q.2.2⟩, hr, fun U hU hWm => ⟨rfl, hU, va_K.moved hWm.alike hK⟩⟩ rfl hn hsize hst (lv_room (pc := pc) (ls := ls) (rest := st0) (m := m) hW) hdg hf) (fun v st₀ t H1 L h0 h1 hv hq hL => ?_)
  obtain ⟨⟨r, σ', hr1, hp, hRM⟩, hz, hk⟩ := hq
  cases hr1
  rw [h0] at hz hk
  rw [h1] at hRM hz hk
  refine kk v σ' H1 (locs ++ L) hp hRM hz ⟨by rw [hz]; exact hS.1, fun q h3 h4 => ?_, fun q hq => ?_⟩
  · rw [hk q (Nat.lt_of_lt_of_le h3 hS.1) h4]; exact hS.2.1 q h3 h4
  · rcases List.mem_append.mp hq with h | h
    · exact hS.2.2 q h
    · exact hL q h
