/-! the law's calls of the class: rows -/
theorem GL.sub {D : va_G} {cI cO cL : ClassId} {A B : Nat → Prop} {eE mi : Nat} {sa : Nat → Nat} {U : State} (h : ∀ q, B q → A q) (hu : ∀ q : Nat, U.heap.size ≤ q → B q) (hG : GL D cI cO cL A eE mi sa U) : GL D cI cO cL B eE mi sa U := ⟨GK.sub h hu hG.1, hG.2⟩
theorem RX.weaken {D : va_G} {cO : ClassId} {A B : Nat → Prop} {eE : Nat} {g : zG} {σ : zT} {H : Heap} (h : RX D cO A eE g σ H) (hB : ∀ q, A q → q < H.size → B q) : RX D cO B eE g σ H := ⟨h.1, h.2.1, fun t i hv => hB _ (h.2.2.1 t i hv) (z_lt (h.1 t i hv)), h.2.2.2⟩
section LT
variable {l : Launch} {p : Program} {e : Env} {R : Room} {s : State} {m : MethodId} {args : Array Value} {below : List Frame} {meth : Method} {c : Code} {H H0 : Heap} {locs : List Loc} {cells slots : Nat} {Q : State → Prop} {cc bytes : ByteArray} {pc nL maxL index n : Nat} {ls : Array Slot} {st0 rest As : List Value} {y : MethodName} {ret : Option FieldType} {ws : List Cond} {rm : Room} {Ts : List Cond} {own : String} {D : va_G} {cI cO cL : ClassId} {A B : Nat → Prop} {eE mi x0 mc ms : Nat} {sa la : Nat → Nat} {hh : List (Nat × Nat × Nat × Nat)} {σ τ : zT} {gL : zG} {ν : Int → Int} {th an e1 e2 e3 : Int}
theorem z_lT {P : Option Value → Heap → Prop} (S : CallFix p m c cc nL s args Ts own) (hM : zLM l y ws rm D cI cO cL B eE mi sa As H P) (cw : vx_CSW R s args own index y bytes maxL ret hh ws rm rm.cells rm.slots n) (hpre : ∀ U : State, U.heap = H → s.WarmedH U.vm → GL D cI cO cL B eE mi sa U) (hBA : ∀ q, B q → A q) (hS : va_S A H0 H locs) (hm : rm.cells = mc ∧ rm.slots = ms)
    (hn : As.length = n) (hsize : ls.size = nL) (hst : st0 = As.reverse ++ rest) (hW : (rest.map fun v => v.category).sum ≤ 8) (hdg : decode cc pc = .ok (.invokestatic index, 3)) (hf : cells + mc ≤ R.cells ∧ slots + ms ≤ R.slots)
    (kk : ∀ (r : Option Value) (H1 : Heap) (locs1 : List Loc), P r H1 → H.size ≤ H1.size → (∀ q : Nat, q < H.size → ¬ B q → H1[q]? = H[q]?) → va_S A H0 H1 locs1 → W p l e R s m args below meth c H1 locs1 (cells + mc) (slots + ms) Q (F0 m (pc + 3) ls (r.toList ++ rest))) : W p l e R s m args below meth c H locs cells slots Q (F0 m pc ls st0) := by
  obtain ⟨rfl, rfl⟩ := hm
  have hr := vx_runSX (l := l) (below := below) (meth := meth) (H := H) (locs := locs) (cells := cells) (slots := slots) (p := p) (e := e) (As := As) (rest := rest) (g := F0 m pc ls st0) S hM cw ⟨fun a U g mk q => ⟨q.1, q.2.1, GL.same (u := U) (U := U.calling g mk a) rfl rfl q.2.2⟩, fun U hU hWm => ⟨rfl, hU, hpre U hU hWm⟩⟩ rfl hn hsize hst (lv_room (pc := pc) (ls := ls) (rest := st0) (m := m) hW) hdg hf
  intro T hT X
  rcases hr T hT X with ⟨v, st₀, t, T', L, h0, X', hL, e1, e2, ⟨⟨r, hv, hp⟩, hF⟩, st⟩ | ⟨q, st₀, t, T', L, E, ce, h0, X', hL, e1, e2, hx, hce, hcv, hcl, st⟩
  · cases hv
    have hz : H.size ≤ T'.heap.size := by rw [e1, ← h0]; exact hF.1
    have hk : ∀ q : Nat, q < H.size → ¬ B q → T'.heap[q]? = H[q]? := fun q h1 h2 => by rw [e1, ← h0]; exact hF.2 q (by rw [h0]; exact h1) h2
    obtain ⟨t2, a1, b1⟩ := kk v T'.heap (locs ++ L) (by rw [e1]; exact hp) hz hk ⟨Nat.le_trans hS.1 hz, fun q h3 h4 => (hk q (Nat.lt_of_lt_of_le h3 hS.1) (fun z => h4 (hBA q z))).trans (hS.2.1 q h3 h4), fun q hq => by
      rcases List.mem_append.mp hq with h | h
      · exact hS.2.2 q h
      · exact hBA _ (hL q h)⟩ T' rfl X'
    exact ⟨t2, st t2 a1, b1⟩
  · exact absurd hx id
/-- the same of a method without a table of handlers -/
theorem z_lU {P : Option Value → Heap → Prop} (S : CallFix p m c cc nL s args Ts own) (hM : zLM l y ws rm D cI cO cL B eE mi sa As H P) (cw : CallB R s args own index y bytes maxL ret ws rm rm.cells rm.slots n ∧ (Cond.static y).before args s = true) (hpre : ∀ U : State, U.heap = H → s.WarmedH U.vm → GL D cI cO cL B eE mi sa U) (hBA : ∀ q, B q → A q) (hS : va_S A H0 H locs) (hm : rm.cells = mc ∧ rm.slots = ms)
    (hn : As.length = n) (hsize : ls.size = nL) (hst : st0 = As.reverse ++ rest) (hW : (rest.map fun v => v.category).sum ≤ 8) (hdg : decode cc pc = .ok (.invokestatic index, 3)) (hf : cells + mc ≤ R.cells ∧ slots + ms ≤ R.slots)
    (kk : ∀ (r : Option Value) (H1 : Heap) (locs1 : List Loc), P r H1 → H.size ≤ H1.size → (∀ q : Nat, q < H.size → ¬ B q → H1[q]? = H[q]?) → va_S A H0 H1 locs1 → W p l e R s m args below meth c H1 locs1 (cells + mc) (slots + ms) Q (F0 m (pc + 3) ls (r.toList ++ rest))) : W p l e R s m args below meth c H locs cells slots Q (F0 m pc ls st0) := by
  obtain ⟨rfl, rfl⟩ := hm
  have hr := vx_runS (l := l) (below := below) (meth := meth) (H := H) (locs := locs) (cells := cells) (slots := slots) (p := p) (e := e) (As := As) (rest := rest) (g := F0 m pc ls st0) S hM cw ⟨fun a U g mk q => ⟨q.1, q.2.1, GL.same (u := U) (U := U.calling g mk a) rfl rfl q.2.2⟩, fun U hU hWm => ⟨rfl, hU, hpre U hU hWm⟩⟩ rfl hn hsize hst (lv_room (pc := pc) (ls := ls) (rest := st0) (m := m) hW) hdg hf
  intro T hT X
  rcases hr T hT X with ⟨v, st₀, t, T', L, h0, X', hL, e1, e2, ⟨⟨r, hv, hp⟩, hF⟩, st⟩ | ⟨q, st₀, t, T', L, E, ce, h0, X', hL, e1, e2, hx, hce, hcv, hcl, st⟩
  · cases hv
    have hz : H.size ≤ T'.heap.size := by rw [e1, ← h0]; exact hF.1
    have hk : ∀ q : Nat, q < H.size → ¬ B q → T'.heap[q]? = H[q]? := fun q h1 h2 => by rw [e1, ← h0]; exact hF.2 q (by rw [h0]; exact h1) h2
    obtain ⟨t2, a1, b1⟩ := kk v T'.heap (locs ++ L) (by rw [e1]; exact hp) hz hk ⟨Nat.le_trans hS.1 hz, fun q h3 h4 => (hk q (Nat.lt_of_lt_of_le h3 hS.1) (fun z => h4 (hBA q z))).trans (hS.2.1 q h3 h4), fun q hq => by
      rcases List.mem_append.mp hq with h | h
      · exact hS.2.2 q h
      · exact hBA _ (hL q h)⟩ T' rfl X'
    exact ⟨t2, st t2 a1, b1⟩
  · exact absurd hx id
/-- isTold's world: the class's cells, the law's rows, the row of counts -/
def TS (D : va_G) (cI cO : ClassId) (A : Nat → Prop) (eE x0 : Nat) (la : Nat → Nat) (τ σ : zT) (q0 : Nat) (S0 : Heap) (ν : Int → Int) (gL : zG) (H : Heap) (locs : List Loc) : Prop :=
  gL 0 0 = x0 ∧ RX D cO (fun q => A q ∧ q ≠ q0) eE gL σ H ∧ RA D cI la τ H ∧ va_at D vwCl (q0, .inl (cI, 5, .inl (fun j : Nat => zI (ν (j : Int))))) H ∧ va_S A S0 H locs
theorem t_call (S : CallFix p m c cc nL s args Ts own) (hG : GL D cI cO cL A eE mi sa s) (hAl : ∀ q, AL la q → ¬ A q) (hT : TS D cI cO A eE x0 la τ σ s.heap.size s.heap ν gL H locs) (hM : zLM l y ws rm D cI cO cL (fun q => A q ∧ q ≠ s.heap.size) eE mi sa As H (zLP D cO (fun q => A q ∧ q ≠ s.heap.size) eE gL σ th an e1 e2 e3 σ)) (cw : vx_CSW R s args own index y bytes maxL ret hh ws rm rm.cells rm.slots n) (hm : rm.cells = mc ∧ rm.slots = ms)
    (hn : As.length = n) (hsize : ls.size = nL) (hst : st0 = As.reverse ++ rest) (hW : (rest.map fun v => v.category).sum ≤ 8) (hdg : decode cc pc = .ok (.invokestatic index, 3)) (hf : cells + mc ≤ R.cells ∧ slots + ms ≤ R.slots)
    (kk : ∀ (z : Int) (g1 : zG) (H1 : Heap) (locs1 : List Loc), zAw th an e1 e2 e3 z → TS D cI cO A eE x0 la τ σ s.heap.size s.heap ν g1 H1 locs1 → W p l e R s m args below meth c H1 locs1 (cells + mc) (slots + ms) Q (F0 m (pc + 3) ls (.int (zI z) :: rest))) : W p l e R s m args below meth c H locs cells slots Q (F0 m pc ls st0) := by
  obtain ⟨t1, t2, t3, t4, t5⟩ := hT
  have hlt : s.heap.size < H.size := z_lt t4
  refine z_lT S hM cw (fun U hU hW => ?_) (fun q hq => hq.1) t5 hm hn hsize hst hW hdg hf (fun r H1 locs1 hp hz hk hS1 => ?_)
  · exact GL.sub (A := A) (fun q hq => hq.1) (fun q hq => ⟨hG.1.2.2.2.2.1 q (by rw [hU] at hq; omega), by rw [hU] at hq; omega⟩) (GL.warm hW (by rw [hU]; omega) (fun q h1 h2 => by rw [hU]; exact t5.2.1 q h1 h2) hG)
  · obtain ⟨z, e, aw, g1, hg1, hR1⟩ := hp
    rw [ite_self] at hR1
    rw [e]
    exact kk z g1 H1 locs1 aw ⟨hg1.trans t1, hR1, t3.kept (fun q hq => hk q (t3.lt hq) (fun w => hAl q hq w.1)), t4.kept (hk _ hlt (fun w => w.2 rfl)), hS1⟩
/-- the row of counts: read, counted up -/
theorem t_ald (hexec : p.tables.exec = Jvm.exec) (hb : c.code = cc) (hK : zKK D cI cO cL s) {q0 : Nat} (hT : TS D cI cO A eE x0 la τ σ q0 H0 ν gL H locs) {i : Int} (h : 0 ≤ i ∧ i < 5) (hdg : decode cc pc = .ok (.iaload, 1))
    (kk : W p l e R s m args below meth c H locs cells slots Q (F0 m (pc + 1) ls (.int (zI (ν i)) :: rest))) : W p l e R s m args below meth c H locs cells slots Q (F0 m pc ls (.int (zI i) :: .ref q0 :: rest)) := by
  refine z_iald hexec hb hK 0 hT.2.2.2.1 rfl (by omega) hdg ?_
  rw [show ((i.toNat : Nat) : Int) = i by omega]
  exact kk
theorem t_ast (hexec : p.tables.exec = Jvm.exec) (hb : c.code = cc) (hK : zKK D cI cO cL s) {q0 : Nat} (hT : TS D cI cO A eE x0 la τ σ q0 H0 ν gL H locs) (hA0 : A q0) (hAl : ∀ q, AL la q → ¬ A q) {i v : Int} (ν1 : Int → Int) (hν : ∀ j, ν1 j = if j = i then v else ν j) (h : 0 ≤ i ∧ i < 5) (hdg : decode cc pc = .ok (.iastore, 1))
    (kk : ∀ (H1 : Heap) (locs1 : List Loc), TS D cI cO A eE x0 la τ σ q0 H0 ν1 gL H1 locs1 → W p l e R s m args below meth c H1 locs1 cells slots Q (F0 m (pc + 1) ls rest)) : W p l e R s m args below meth c H locs cells slots Q (F0 m pc ls (.int (zI v) :: .int (zI i) :: .ref q0 :: rest)) := by
  obtain ⟨t1, t2, t3, t4, t5⟩ := hT
  refine z_iast hexec hb hK 0 t4 rfl hA0 t5 (by omega) hdg (fun H1 locs1 ha hz hq hS1 => kk H1 locs1 ⟨t1, t2.kept (fun q _ hA => hq q hA.2), t3.kept (fun q hL => hq q (fun z => hAl q hL (by rw [z]; exact hA0))), ?_, hS1⟩)
  have e : (fun j : Nat => zI (ν1 (j : Int))) = upd (fun j : Nat => zI (ν (j : Int))) i.toNat (zI v) := by
    funext j
    rw [hν]
    by_cases hj : j = i.toNat
    · rw [if_pos (by omega), hj]; simp [upd]
    · rw [if_neg (by omega)]; simp [upd, hj]
  rw [e]
  exact ha
end LT
def zCnt (σ : zT) (i j : Int) : Int := zSum (fun c => if σ 19 c = j then 1 else 0) i.toNat
theorem zCnt_s (σ : zT) {i : Int} (hi : 0 ≤ i) (j : Int) : zCnt σ (i + 1) j = if j = σ 19 i then zCnt σ i (σ 19 i) + 1 else zCnt σ i j := by
  unfold zCnt
  rw [zSum_i _ hi]
  by_cases q : j = σ 19 i
  · rw [if_pos q, if_pos q.symm, q]
  · rw [if_neg q, if_neg (fun z => q z.symm), Int.add_zero]
theorem zP1_t {σ : zT} {k st v c : Int} (h : σ 18 c = k ∧ σ 19 c = st) : zP1 σ k st v c = v := if_pos h
theorem zP1_f {σ : zT} {k st v c : Int} (h : ¬ (σ 18 c = k ∧ σ 19 c = st)) : zP1 σ k st v c = 0 := if_neg h
theorem zSum_1 {f : Int → Int} (h : ∀ c, 0 ≤ f c) : ∀ n : Nat, 0 ≤ zSum f n
  | 0 => Int.le_refl _
  | n + 1 => by
    have a := zSum_1 h n
    have b := h n
    rw [zSum_s]; omega
theorem zP1_0 (σ : zT) (k st c : Int) : 0 ≤ zP1 σ k st 1 c := by unfold zP1; split <;> omega
