/-! the class's writers: their form, a call of one, what a put leaves -/
theorem RX.eqT {D : va_G} {cO : ClassId} {A : Nat → Prop} {eE : Nat} {g : zG} {σ σ' : zT} {H : Heap} (h : RX D cO A eE g σ H) (e : ∀ k j, σ' k j = σ k j) : RX D cO A eE g σ' H := h.eq0 (fun k j _ => e k j)
def zWX (l : Launch) (y : MethodName) (ws : List Cond) (rm : Room) (D : va_G) (cI cO cL : ClassId) (A : Nat → Prop) (eE : Nat) (g : zG) (av : List Value) (H0 : Heap) (post : Option Value → zT → Prop) : Prop :=
  Met l y ws rm (va_Pc av (fun U => U.heap = H0 ∧ zKK D cI cO cL U)) (fun _ st o t => (∃ r σ', o = .returned r ∧ post r σ' ∧ RX D cO A eE g σ' t.heap) ∧ t.heap.size = st.heap.size ∧ ∀ q : Nat, q < st.heap.size → ¬ A q → t.heap[q]? = st.heap[q]?) 0 0 A
theorem z_endX {D : va_G} {cO : ClassId} {A : Nat → Prop} {eE : Nat} {g : zG} {s : State} {H : Heap} {locs : List Loc} {σ' : zT} {post : Option Value → zT → Prop} {v : Option Value} (h : post v σ') (hR : RX D cO A eE g σ' H) (hz : H.size = s.heap.size) (hS : va_S A s.heap H locs) : ∀ t : State, t.heap = H → s.WarmedH t.vm → (∃ r σ', Outcome.returned v = .returned r ∧ post r σ' ∧ RX D cO A eE g σ' t.heap) ∧ t.heap.size = s.heap.size ∧ ∀ q : Nat, q < s.heap.size → ¬ A q → t.heap[q]? = s.heap[q]? :=
  fun t ht _ => ⟨⟨v, σ', rfl, h, by rw [ht]; exact hR⟩, by rw [ht]; exact hz, fun q h1 h2 => by rw [ht]; exact hS.2.1 q h1 h2⟩
theorem z_wx {l : Launch} {p : Program} {e : Env} {R : Room} {s : State} {m : MethodId} {args : Array Value} {below : List Frame} {meth : Method} {c : Code} {H H0 : Heap} {locs : List Loc} {cells slots : Nat} {Q : State → Prop} {cc bytes : ByteArray} {pc nL maxL index n : Nat} {ls : Array Slot} {st0 rest As : List Value} {y : MethodName} {ret : Option FieldType} {ws : List Cond} {rm : Room} {Ts : List Cond} {own C : String} {D : va_G} {cI cO cL : ClassId} {A : Nat → Prop} {eE b : Nat} {g : zG} {post : Option Value → zT → Prop}
    (S : CallFix p m c cc nL s args Ts own) (hM : zWX l y ws rm D cI cO cL A eE g (.ref b :: As) H post) (cw : CallW R s args own C index y bytes maxL ret ws rm 0 0 n) (hK : zKK D cI cO cL s) (hS : va_S A H0 H locs) (hr : ∃ cellB : Cell, H[b]? = some cellB ∧ cellB.vm.isStatics = false ∧ s.vm.findClass C = some cellB.cls)
    (hn : As.length = n) (hsize : ls.size = nL) (hst : st0 = As.reverse ++ .ref b :: rest) (hW : (rest.map fun v => v.category).sum ≤ 8) (hdg : decode cc pc = .ok (.invokevirtual index, 3)) (hf : cells ≤ R.cells ∧ slots ≤ R.slots)
    (kk : ∀ (r : Option Value) (σ' : zT) (H1 : Heap) (locs1 : List Loc), post r σ' → RX D cO A eE g σ' H1 → H1.size = H.size → va_S A H0 H1 locs1 → W p l e R s m args below meth c H1 locs1 cells slots Q (F0 m (pc + 3) ls (r.toList ++ rest))) : W p l e R s m args below meth c H locs cells slots Q (F0 m pc ls st0) := by
  refine z_run (va_runV S hM cw ⟨fun a U g mk q => ⟨q.1, q.2.1, va_K.moved (u := U) (U := U.calling g mk a) (Vm.Alike.refl U.vm) q.2.2⟩, hr, fun U hU hWm => ⟨rfl, hU, va_K.moved hWm.alike hK⟩⟩ rfl hn hsize hst (lv_room (pc := pc) (ls := ls) (rest := st0) (m := m) hW) hdg hf) (fun v st₀ t H1 L h0 h1 hv hq hL => ?_)
  obtain ⟨⟨r, σ', hr1, hp, hRM⟩, hz, hk⟩ := hq
  cases hr1
  rw [h0] at hz hk
  rw [h1] at hRM hz hk
  refine kk v σ' H1 (locs ++ L) hp hRM hz ⟨by rw [hz]; exact hS.1, fun q h3 h4 => ?_, fun q hq => ?_⟩
  · rw [hk q (Nat.lt_of_lt_of_le h3 hS.1) h4]; exact hS.2.1 q h3 h4
  · rcases List.mem_append.mp hq with h | h
    · exact hS.2.2 q h
    · exact hL q h
section XE
variable {g : zG} {cO : ClassId} {σ : zT} {i v : Int}
abbrev xL0 (g : zG) (σ : zT) : List Value := [.ref (g 1 0), .ref (g 2 0), .ref (g 2 1), .ref (g 2 2), .int (zI (σ 4 0)), .int (zI (σ 1 0)), .int (zI (σ 21 0))]
abbrev xL1 (σ : zT) : List Value := [.int (zI (σ 2 0)), .int (zI (σ 3 0))]
abbrev xL4 (σ : zT) (i : Int) : List Value := [.int (zI i), .int (zI (σ 6 i)), .int (zI (σ 7 i)), .int (zI (σ 8 i)), .int (zI (σ 9 i)), .int (zI (σ 10 i))]
abbrev xL5 (σ : zT) (i : Int) : List Value := [.int (zI i), .int (zI (σ 12 i)), .int (zI (σ 13 i)), .int (zI (σ 30 i)), .int (zI (σ 31 i))]
abbrev xL6 (g : zG) (σ : zT) (i : Int) : List Value := [.ref (g 4 (σ 15 i)), .int (zI (σ 16 i)), .int (zI (σ 17 i % 2)), .int (zI (σ 17 i / 2 % 2)), va_rf (xPl g σ i), .int (zI (σ 19 i)), .int (zI (σ 20 i))]
theorem xe_4 : xE g cO (zup σ 4 0 v) 0 0 = .inr (5, (xL0 g σ).set 4 (.int (zI v))) := by simp [xE, zup]
theorem xe_1 : xE g cO (zup σ 1 0 v) 0 0 = .inr (5, (xL0 g σ).set 5 (.int (zI v))) := by simp [xE, zup]
theorem xe_21 : xE g cO (zup σ 21 0 v) 0 0 = .inr (5, (xL0 g σ).set 6 (.int (zI v))) := by simp [xE, zup]
theorem xe_2 : xE g cO (zup σ 2 0 v) 1 0 = .inr (4, (xL1 σ).set 0 (.int (zI v))) := by simp [xE, zup]
theorem xe_3 : xE g cO (zup σ 3 0 v) 1 0 = .inr (4, (xL1 σ).set 1 (.int (zI v))) := by simp [xE, zup]
theorem xe_10 : xE g cO (zup σ 10 i v) 4 i = .inr (3, (xL4 σ i).set 5 (.int (zI v))) := by simp [xE, zup]
theorem xe_30 : xE g cO (zup σ 30 i v) 5 i = .inr (2, (xL5 σ i).set 3 (.int (zI v))) := by simp [xE, zup]
theorem xe_31 : xE g cO (zup σ 31 i v) 5 i = .inr (2, (xL5 σ i).set 4 (.int (zI v))) := by simp [xE, zup]
theorem xe_19 : xE g cO (zup σ 19 i v) 6 i = .inr (1, (xL6 g σ i).set 5 (.int (zI v))) := by simp [xE, zup, xPl]
theorem xe_20 : xE g cO (zup σ 20 i v) 6 i = .inr (1, (xL6 g σ i).set 6 (.int (zI v))) := by simp [xE, zup, xPl]
theorem xe_17a {b : Int} (h1 : v % 2 = b) (h2 : v / 2 % 2 = σ 17 i / 2 % 2) : xE g cO (zup σ 17 i v) 6 i = .inr (1, (xL6 g σ i).set 2 (.int (zI b))) := by simp [xE, zup, xPl, h1, h2]
theorem xe_17b {b : Int} (h1 : v % 2 = σ 17 i % 2) (h2 : v / 2 % 2 = b) : xE g cO (zup σ 17 i v) 6 i = .inr (1, (xL6 g σ i).set 3 (.int (zI b))) := by simp [xE, zup, xPl, h1, h2]
theorem xe_18 {q : Int} {w : Value} (h1 : v % 2 = σ 17 i % 2) (h2 : v / 2 % 2 = σ 17 i / 2 % 2) (hw : w = va_rf (if q = -1 then none else some (g 5 q))) : xE g cO (zup (zup σ 17 i v) 18 i q) 6 i = .inr (1, (xL6 g σ i).set 4 w) := by
  rw [hw]
  simp [xE, zup, xPl, h1, h2]
end XE
theorem zSet_0 {x : Int} : zSet x 0 % 2 = 1 ∧ zSet x 0 / 2 % 2 = x / 2 % 2 := by unfold zSet zBit zPw; simp only [if_true]; split <;> omega
theorem zSet_1 {x : Int} : zSet x 1 % 2 = x % 2 ∧ zSet x 1 / 2 % 2 = 1 := by unfold zSet zBit zPw; simp; split <;> omega
theorem zSet_2 {x : Int} : zSet x 2 % 2 = x % 2 ∧ zSet x 2 / 2 % 2 = x / 2 % 2 := by unfold zSet zBit zPw; simp; split <;> omega
theorem zClr_0 {x : Int} : zClr x 0 % 2 = 0 ∧ zClr x 0 / 2 % 2 = x / 2 % 2 := by unfold zClr zBit zPw; simp only [if_true]; split <;> omega
theorem zClr_1 {x : Int} : zClr x 1 % 2 = x % 2 ∧ zClr x 1 / 2 % 2 = 0 := by unfold zClr zBit zPw; simp; split <;> omega
theorem zClr_2 {x : Int} : zClr x 2 % 2 = x % 2 ∧ zClr x 2 / 2 % 2 = x / 2 % 2 := by unfold zClr zBit zPw; simp; split <;> omega
theorem zdr_w {σ : zT} {k w : Int} (h : w ≠ 2) (a : Nat) (b : Int) : zdr σ k w a b = zup (zup (zup σ 17 k (zClr (σ 17 k) w)) 19 k 0) 20 k (-1) a b := by
  unfold zdr
  rw [if_neg h]
  by_cases e : b = k
  · subst e
    by_cases e1 : a = 17
    · subst e1; simp [zup]
    by_cases e2 : a = 18
    · subst e2; simp [zup]
    by_cases e3 : a = 19
    · subst e3; simp [zup]
    by_cases e4 : a = 20
    · subst e4; simp [zup]
    simp [zup, e1, e2, e3, e4]
  · simp [zup, e]
theorem zdr_2 {σ : zT} {k : Int} (a : Nat) (b : Int) : zdr σ k 2 a b = zup (zup (zup (zup σ 17 k (zClr (σ 17 k) 2)) 18 k (-1)) 19 k 0) 20 k (-1) a b := by
  unfold zdr
  by_cases e : b = k
  · subst e
    by_cases e1 : a = 17
    · subst e1; simp [zup]
    by_cases e2 : a = 18
    · subst e2; simp [zup]
    by_cases e3 : a = 19
    · subst e3; simp [zup]
    by_cases e4 : a = 20
    · subst e4; simp [zup]
    simp [zup, e1, e2, e3, e4]
  · simp [zup, e]
/-- a conference at a minute: whether its move is done by that, and the table behind -/
def zDn (τ : zT) (k : Int) : Prop := ((τ 19 k = 2 ∧ τ 20 k ≤ τ 1 0) ∨ τ 19 k = 3) ∧ τ 18 k ≠ -1 ∧ τ 20 k + τ 8 (τ 15 k) ≤ τ 1 0
noncomputable def zBD (τ : zT) (k : Int) : zT := @ite zT (zDn τ k) (Classical.propDecidable _) (zup (zup (zup (zup τ 19 k 4) 10 (τ 15 k) (τ 10 (τ 15 k) + (τ 8 (τ 15 k) * τ 13 (τ 18 k) + τ 9 (τ 15 k) * 100))) 30 (τ 18 k) (τ 30 (τ 18 k) + 1)) 31 (τ 18 k) (τ 31 (τ 18 k) + τ 8 (τ 15 k))) (zup τ 19 k (if τ 19 k = 2 ∧ τ 20 k ≤ τ 1 0 then 3 else τ 19 k))
theorem zBD_t {τ : zT} {k : Int} (h : zDn τ k) : zBD τ k = zup (zup (zup (zup τ 19 k 4) 10 (τ 15 k) (τ 10 (τ 15 k) + (τ 8 (τ 15 k) * τ 13 (τ 18 k) + τ 9 (τ 15 k) * 100))) 30 (τ 18 k) (τ 30 (τ 18 k) + 1)) 31 (τ 18 k) (τ 31 (τ 18 k) + τ 8 (τ 15 k)) := by unfold zBD; exact if_pos h
theorem zBD_f {τ : zT} {k : Int} (h : ¬ zDn τ k) : zBD τ k = zup τ 19 k (if τ 19 k = 2 ∧ τ 20 k ≤ τ 1 0 then 3 else τ 19 k) := by unfold zBD; exact if_neg h
theorem zup_id (σ : zT) (t : Nat) (i : Int) (k : Nat) (j : Int) : σ k j = zup σ t i (σ t i) k j := by
  show σ k j = if k = t ∧ j = i then σ t i else σ k j
  split
  · rename_i h; rw [h.1, h.2]
  · rfl
