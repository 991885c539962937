/-! the law: its rows -/
/-- what holds all through the law -/
def LC (l : Launch) (p : Program) (s : State) (m : MethodId) (c : Code) (b L : Nat) (xs : Nat → Int32) (D : va_G) (cI cO cL : ClassId) (A : Nat → Prop) (eE mi : Nat) (sa la : Nat → Nat) (h3 : Nat) : Prop :=
  (p.tables.exec = Jvm.exec ∧ c.code = cL_law ∧ c.maxLocals = 25 ∧ s.vm.findClass RL = some m.cls ∧ ∀ w ∈ wsL_law, w.before #[Value.ref b] s = true) ∧ (va_X b L xs s s.heap ∧ b < s.heap.size ∧ L ≤ 260) ∧ zKK D cI cO cL s ∧ LA la ∧ l.stackTraces = false ∧
  (∀ (U : State), s.WarmedH U.vm → h3 ≤ U.heap.size → (∀ q : Nat, q < s.heap.size → U.heap[q]? = s.heap[q]?) → GL D cI cO cL A eE mi sa U) ∧
  (∀ q, A q → s.heap.size ≤ q ∧ ¬ AL la q) ∧ (∀ q, AL la q → s.heap.size ≤ q ∧ q < h3) ∧ s.heap.size ≤ h3
/-- where it stands -/
def zLV (D : va_G) (cI cO : ClassId) (A : Nat → Prop) (eE x0 : Nat) (la : Nat → Nat) (s : State) (h3 : Nat) (τ σ : zT) (gL : zG) (H : Heap) (locs : List Loc) : Prop :=
  gL 0 0 = x0 ∧ RX D cO A eE gL σ H ∧ RA D cI la τ H ∧ h3 ≤ H.size ∧ va_S (fun q => s.heap.size ≤ q) s.heap H locs
section LL
variable {l : Launch} {p : Program} {e : Env} {R : Room} {s : State} {m : MethodId} {args : Array Value} {below : List Frame} {meth : Method} {c : Code} {H : Heap} {locs : List Loc} {cells slots : Nat} {Q : State → Prop} {cc bytes : ByteArray} {pc nL maxL index n : Nat} {ls : Array Slot} {st0 rest As : List Value} {y : MethodName} {ret : Option FieldType} {ws : List Cond} {rm : Room} {Ts : List Cond} {own : String} {D : va_G} {cI cO cL : ClassId} {A : Nat → Prop} {eE mi x0 mc ms h3 b L : Nat} {xs : Nat → Int32} {sa la : Nat → Nat} {hh : List (Nat × Nat × Nat × Nat)} {σ σ1 τ : zT} {gL : zG} {th an e1 e2 e3 : Int}
theorem zLV.hp (C0 : LC l p s m c b L xs D cI cO cL A eE mi sa la h3) (hS : zLV D cI cO A eE x0 la s h3 τ σ gL H locs) (U : State) (hU : U.heap = H) (hW : s.WarmedH U.vm) : GL D cI cO cL A eE mi sa U := by
  refine C0.2.2.2.2.2.1 U hW (by rw [hU]; exact hS.2.2.2.1) (fun q hq => ?_)
  rw [hU]
  exact hS.2.2.2.2.2.1 q hq (fun z => by have z2 : s.heap.size ≤ q := z; omega)
theorem l_call (C0 : LC l p s m c b L xs D cI cO cL A eE mi sa la h3) (S : CallFix p m c cc nL s args Ts own) (hS : zLV D cI cO A eE x0 la s h3 τ σ gL H locs) (hM : zLM l y ws rm D cI cO cL A eE mi sa As H (zLP D cO A eE gL σ th an e1 e2 e3 σ1)) (cw : vx_CSW R s args own index y bytes maxL ret hh ws rm rm.cells rm.slots n) (hm : rm.cells = mc ∧ rm.slots = ms)
    (hn : As.length = n) (hsize : ls.size = nL) (hst : st0 = As.reverse ++ rest) (hW : (rest.map fun v => v.category).sum ≤ 8) (hdg : decode cc pc = .ok (.invokestatic index, 3)) (hf : cells + mc ≤ R.cells ∧ slots + ms ≤ R.slots)
    (kk : ∀ (z : Int) (g1 : zG) (H1 : Heap) (locs1 : List Loc), zAw th an e1 e2 e3 z → zLV D cI cO A eE x0 la s h3 τ (if th = 0 then σ1 else σ) g1 H1 locs1 → W p l e R s m args below meth c H1 locs1 (cells + mc) (slots + ms) Q (F0 m (pc + 3) ls (.int (zI z) :: rest))) : W p l e R s m args below meth c H locs cells slots Q (F0 m pc ls st0) := by
  refine z_lT S hM cw (hS.hp C0) (fun q hq => (C0.2.2.2.2.2.2.1 q hq).1) hS.2.2.2.2 hm hn hsize hst hW hdg hf (fun r H1 locs1 hp hz hk hS1 => ?_)
  obtain ⟨z, e, aw, g1, hg1, hR1⟩ := hp
  rw [e]
  exact kk z g1 H1 locs1 aw ⟨hg1.trans hS.1, hR1, hS.2.2.1.kept (fun q hq => hk q (hS.2.2.1.lt hq) (fun w => (C0.2.2.2.2.2.2.1 q w).2 hq)), Nat.le_trans hS.2.2.2.1 hz, hS1⟩
theorem l_told (C0 : LC l p s m c b L xs D cI cO cL A eE mi sa la h3) (S : CallFix p m c cc nL s args Ts own) (hS : zLV D cI cO A eE x0 la s h3 τ σ gL H locs) (hM : zLM l y ws rm D cI cO cL A eE mi sa As H (fun r H => r = some (.int (zI 1)) ∧ ∃ g' : zG, g' 0 0 = gL 0 0 ∧ RX D cO A eE g' σ H)) (cw : CallB R s args own index y bytes maxL ret ws rm rm.cells rm.slots n ∧ (Cond.static y).before args s = true) (hm : rm.cells = mc ∧ rm.slots = ms)
    (hn : As.length = n) (hsize : ls.size = nL) (hst : st0 = As.reverse ++ rest) (hW : (rest.map fun v => v.category).sum ≤ 8) (hdg : decode cc pc = .ok (.invokestatic index, 3)) (hf : cells + mc ≤ R.cells ∧ slots + ms ≤ R.slots)
    (kk : ∀ (g1 : zG) (H1 : Heap) (locs1 : List Loc), zLV D cI cO A eE x0 la s h3 τ σ g1 H1 locs1 → W p l e R s m args below meth c H1 locs1 (cells + mc) (slots + ms) Q (F0 m (pc + 3) ls (.int (zI 1) :: rest))) : W p l e R s m args below meth c H locs cells slots Q (F0 m pc ls st0) := by
  refine z_lU S hM cw (hS.hp C0) (fun q hq => (C0.2.2.2.2.2.2.1 q hq).1) hS.2.2.2.2 hm hn hsize hst hW hdg hf (fun r H1 locs1 hp hz hk hS1 => ?_)
  obtain ⟨e, g1, hg1, hR1⟩ := hp
  rw [e]
  exact kk g1 H1 locs1 ⟨hg1.trans hS.1, hR1, hS.2.2.1.kept (fun q hq => hk q (hS.2.2.1.lt hq) (fun w => (C0.2.2.2.2.2.2.1 q w).2 hq)), Nat.le_trans hS.2.2.2.1 hz, hS1⟩
theorem l_put (hexec : p.tables.exec = Jvm.exec) (hb : c.code = cc) (C0 : LC l p s m c b L xs D cI cO cL A eE mi sa la h3) (hS : zLV D cI cO A eE x0 la s h3 τ σ gL H locs) (t : Nat) (ht : t < 6) {i v : Int} (h : 0 ≤ i ∧ i < laN t) (hdg : decode cc pc = .ok (.iastore, 1))
    (kk : ∀ (H1 : Heap) (locs1 : List Loc), zLV D cI cO A eE x0 la s h3 (zup τ t i v) σ gL H1 locs1 → W p l e R s m args below meth c H1 locs1 cells slots Q (F0 m (pc + 1) ls rest)) : W p l e R s m args below meth c H locs cells slots Q (F0 m pc ls (.int (zI v) :: .int (zI i) :: .ref (la t) :: rest)) := by
  refine l_ast hexec hb C0.2.2.1 hS.2.2.1 C0.2.2.2.1 hS.2.2.2.2 (fun q hq => (C0.2.2.2.2.2.2.2.1 q hq).1) t ht h hdg (fun H1 locs1 hR hz hk hS1 => ?_)
  exact kk H1 locs1 ⟨hS.1, hS.2.1.kept (fun q _ hA => hk q (C0.2.2.2.2.2.2.1 q hA).2), hR, by rw [hz]; exact hS.2.2.2.1, hS1⟩
theorem l_looks {post : zT → Prop} (C0 : LC l p s m c b L xs D cI cO cL A eE mi sa la h3) (S : CallFix p m c cc nL s args Ts own) (hS : zLV D cI cO A eE x0 la s h3 τ σ gL H locs) (hM : zWA l y ws rm D cI cO cL la As H post) (cw : CallB R s args own index y bytes maxL ret ws rm 0 0 n ∧ (Cond.static y).before args s = true)
    (hn : As.length = n) (hsize : ls.size = nL) (hst : st0 = As.reverse ++ rest) (hW : (rest.map fun v => v.category).sum ≤ 8) (hdg : decode cc pc = .ok (.invokestatic index, 3)) (hf : cells ≤ R.cells ∧ slots ≤ R.slots)
    (kk : ∀ (τ1 : zT) (H1 : Heap) (locs1 : List Loc), post τ1 → zLV D cI cO A eE x0 la s h3 τ1 σ gL H1 locs1 → W p l e R s m args below meth c H1 locs1 cells slots Q (F0 m (pc + 3) ls rest)) : W p l e R s m args below meth c H locs cells slots Q (F0 m pc ls st0) := by
  refine z_wa S hM cw C0.2.2.1 hS.2.2.2.2 (fun q hq => (C0.2.2.2.2.2.2.2.1 q hq).1) hn hsize hst hW hdg hf (fun τ1 H1 locs1 hp hR hz hk hS1 => ?_)
  exact kk τ1 H1 locs1 hp ⟨hS.1, hS.2.1.kept (fun q hq hA => hk q hq (C0.2.2.2.2.2.2.1 q hA).2), hR, by rw [hz]; exact hS.2.2.2.1, hS1⟩
theorem zLV.x (C0 : LC l p s m c b L xs D cI cO cL A eE mi sa la h3) (hS : zLV D cI cO A eE x0 la s h3 τ σ gL H locs) (U : State) (hU : U.heap = H) (hv : s.vm.Alike U.vm) : va_X b L xs U U.heap := by
  rw [hU]
  exact (C0.2.1.1.moved hv).kept (hS.2.2.2.2.2.1 b C0.2.1.2.1 (fun z => by have z2 : s.heap.size ≤ b := z; have := C0.2.1.2.1; omega))
theorem zLV.bl (C0 : LC l p s m c b L xs D cI cO cL A eE mi sa la h3) (hS : zLV D cI cO A eE x0 la s h3 τ σ gL H locs) : b < H.size := Nat.lt_of_lt_of_le C0.2.1.2.1 hS.2.2.2.2.1
theorem zLV.fg (hS : zLV D cI cO A eE x0 la s h3 τ σ gL H locs) : zLV D cI cO A eE x0 la s h3 τ σ gL H [] := ⟨hS.1, hS.2.1, hS.2.2.1, hS.2.2.2.1, hS.2.2.2.2.1, hS.2.2.2.2.2.1, fun q hq => absurd hq List.not_mem_nil⟩
theorem l_forget (hS : zLV D cI cO A eE x0 la s h3 τ σ gL H locs) {g : JFrame} (kk : W p l e R s m args below meth c H [] cells slots Q g) : W p l e R s m args below meth c H locs cells slots Q g := va_forget (fun q hq => hS.2.2.2.2.2.2 q hq) kk
/-- bits of a conference's number -/
theorem zPw8 {w : Int} (hw : 0 ≤ w ∧ w ≤ 2) : 1 ≤ zPw w ∧ zPw w ≤ 4 ∧ (w ≠ 2 → zPw w ≤ 2) ∧ (w = 2 → zPw w = 4) := by unfold zPw; split <;> (try split) <;> omega
theorem l_shr3 (hexec : p.tables.exec = Jvm.exec) (hb : c.code = cc) {a w : Int} (hw : 0 ≤ w ∧ w ≤ 2) (hdg : decode cc pc = .ok (.ishr, 1)) (h : 0 ≤ a ∧ a < 2147483648) (kk : W p l e R s m args below meth c H locs cells slots Q (F0 m (pc + 1) ls (.int (zI (a / (8 * zPw w))) :: rest))) : W p l e R s m args below meth c H locs cells slots Q (F0 m pc ls (.int (zI (3 + w)) :: .int (zI a) :: rest)) := by
  refine lv_ishr hexec hb hdg ?_
  have e : zI a >>> (zI (3 + w) &&& 31) = zI (a / (8 * zPw w)) := by
    unfold zPw
    split
    · rw [zI_shr (n := 3) h ⟨by omega, by omega⟩]; rfl
    · split
      · rw [zI_shr (n := 4) h ⟨by omega, by omega⟩]; rfl
      · rw [zI_shr (n := 5) h ⟨by omega, by omega⟩]; rfl
  rw [e]
  exact kk
theorem l_shl8 (hexec : p.tables.exec = Jvm.exec) (hb : c.code = cc) {w : Int} (hw : 0 ≤ w ∧ w ≤ 2) (hdg : decode cc pc = .ok (.ishl, 1)) (kk : W p l e R s m args below meth c H locs cells slots Q (F0 m (pc + 1) ls (.int (zI (8 * zPw w)) :: rest))) : W p l e R s m args below meth c H locs cells slots Q (F0 m pc ls (.int (zI w) :: .int (zI 8) :: rest)) := by
  refine lv_ishl hexec hb hdg ?_
  have e : zI 8 <<< (zI w &&& 31) = zI (8 * zPw w) := zSmall (P := fun _ w => zI 8 <<< (zI w &&& 31) = zI (8 * zPw w)) (by decide +kernel) (x := 0) (by omega) hw
  rw [e]
  exact kk
theorem zBitC {σ : zT} {k w : Int} (hI : zInv σ) (hB : zB σ) (hk : 0 ≤ k ∧ k < σ 14 0) (hw : 0 ≤ w ∧ w ≤ 2) : pC σ k / (8 * zPw w) % 2 = zBit (σ 17 k) w := by
  have e := (pC_x hI hB hk).2.2.1
  have r := (pC_x hI hB hk).1
  have g := hI.c hk
  generalize pC σ k = x at e r
  generalize σ 17 k = y at e g
  unfold zPw zBit
  split
  · omega
  · split <;> omega
theorem zOrC8 {x w : Int} (hx : 0 ≤ x ∧ x < 1024) (hw : 0 ≤ w ∧ w ≤ 2) (hb : zBit (x / 8 % 8) w = 0) : zI x ||| zI (8 * zPw w) = zI (x + 8 * zPw w) := by
  have key : ∀ a : Fin 1024, ∀ w : Fin 3, zBit ((a.val : Int) / 8 % 8) (w.val : Int) = 0 → zI (a.val : Int) ||| zI (8 * zPw (w.val : Int)) = zI ((a.val : Int) + 8 * zPw (w.val : Int)) := by decide +kernel
  have h1 := key ⟨x.toNat, by omega⟩ ⟨w.toNat, by omega⟩
  have e1 : ((x.toNat : Nat) : Int) = x := by omega
  have e2 : ((w.toNat : Nat) : Int) = w := by omega
  simp only [e1, e2] at h1
  exact h1 hb
theorem zAndC8 {x w : Int} (hx : 0 ≤ x ∧ x < 3072) (hw : 0 ≤ w ∧ w ≤ 1) (hb : zBit (x / 8 % 8) w = 1) : zI x &&& zI (1023 - 8 * zPw w) = zI (x % 1024 - 8 * zPw w) := by
  have key : ∀ h : Fin 3, ∀ a : Fin 1024, ∀ w : Fin 2, zBit ((1024 * (h.val : Int) + (a.val : Int)) / 8 % 8) (w.val : Int) = 1 → zI (1024 * (h.val : Int) + (a.val : Int)) &&& zI (1023 - 8 * zPw (w.val : Int)) = zI ((1024 * (h.val : Int) + (a.val : Int)) % 1024 - 8 * zPw (w.val : Int)) := by decide +kernel
  have h1 := key ⟨(x / 1024).toNat, by omega⟩ ⟨(x % 1024).toNat, by omega⟩ ⟨w.toNat, by omega⟩
  have e1 : 1024 * (((x / 1024).toNat : Nat) : Int) + (((x % 1024).toNat : Nat) : Int) = x := by omega
  have e2 : ((w.toNat : Nat) : Int) = w := by omega
  simp only [e1, e2] at h1
  exact h1 hb
theorem l_orC (hexec : p.tables.exec = Jvm.exec) (hb : c.code = cc) {x w : Int} (hx : 0 ≤ x ∧ x < 1024) (hw : 0 ≤ w ∧ w ≤ 2) (hbit : zBit (x / 8 % 8) w = 0) (hdg : decode cc pc = .ok (.ior, 1)) (kk : W p l e R s m args below meth c H locs cells slots Q (F0 m (pc + 1) ls (.int (zI (x + 8 * zPw w)) :: rest))) : W p l e R s m args below meth c H locs cells slots Q (F0 m pc ls (.int (zI (8 * zPw w)) :: .int (zI x) :: rest)) := by
  refine lv_ior hexec hb hdg ?_
  rw [zOrC8 hx hw hbit]
  exact kk
theorem l_or0 (hexec : p.tables.exec = Jvm.exec) (hb : c.code = cc) {x : Int} (hdg : decode cc pc = .ok (.ior, 1)) (kk : W p l e R s m args below meth c H locs cells slots Q (F0 m (pc + 1) ls (.int (zI x) :: rest))) : W p l e R s m args below meth c H locs cells slots Q (F0 m pc ls (.int (zI 0) :: .int (zI x) :: rest)) := by
  refine lv_ior hexec hb hdg ?_
  rw [show zI 0 = (0 : Int32) from rfl, Int32.or_zero]
  exact kk
theorem l_not8 (hexec : p.tables.exec = Jvm.exec) (hb : c.code = cc) {w : Int} (hw : 0 ≤ w ∧ w ≤ 2) (hdg : decode cc pc = .ok (.ixor, 1)) (kk : W p l e R s m args below meth c H locs cells slots Q (F0 m (pc + 1) ls (.int (zI (-1 - 8 * zPw w)) :: rest))) : W p l e R s m args below meth c H locs cells slots Q (F0 m pc ls (.int (zI (-1)) :: .int (zI (8 * zPw w)) :: rest)) := by
  refine lv_ixor hexec hb hdg ?_
  have e : zI (8 * zPw w) ^^^ zI (-1) = zI (-1 - 8 * zPw w) := zSmall (P := fun _ w => zI (8 * zPw w) ^^^ zI (-1) = zI (-1 - 8 * zPw w)) (by decide +kernel) (x := 0) (by omega) hw
  rw [e]
  exact kk
theorem l_not9 (hexec : p.tables.exec = Jvm.exec) (hb : c.code = cc) {w : Int} (hw : 0 ≤ w ∧ w ≤ 2) (hdg : decode cc pc = .ok (.iand, 1)) (kk : W p l e R s m args below meth c H locs cells slots Q (F0 m (pc + 1) ls (.int (zI (1023 - 8 * zPw w)) :: rest))) : W p l e R s m args below meth c H locs cells slots Q (F0 m pc ls (.int (zI 1023) :: .int (zI (-1 - 8 * zPw w)) :: rest)) := by
  refine lv_iand hexec hb hdg ?_
  have e : zI (-1 - 8 * zPw w) &&& zI 1023 = zI (1023 - 8 * zPw w) := zSmall (P := fun _ w => zI (-1 - 8 * zPw w) &&& zI 1023 = zI (1023 - 8 * zPw w)) (by decide +kernel) (x := 0) (by omega) hw
  rw [e]
  exact kk
theorem l_clr1 (hexec : p.tables.exec = Jvm.exec) (hb : c.code = cc) {x w : Int} (hx : 0 ≤ x ∧ x < 3072) (hw : 0 ≤ w ∧ w ≤ 1) (hbit : zBit (x / 8 % 8) w = 1) (hdg : decode cc pc = .ok (.iand, 1)) (kk : W p l e R s m args below meth c H locs cells slots Q (F0 m (pc + 1) ls (.int (zI (x % 1024 - 8 * zPw w)) :: rest))) : W p l e R s m args below meth c H locs cells slots Q (F0 m pc ls (.int (zI (1023 - 8 * zPw w)) :: .int (zI x) :: rest)) := by
  refine lv_iand hexec hb hdg ?_
  rw [zAndC8 hx hw hbit]
  exact kk
end LL
/-! the law's rows and the table: what a call changes -/
theorem Rl.eqS {τ σ σ' : zT} (h : Rl τ σ) (e : ∀ t i, t ≠ 0 → t < 30 → t ≠ 10 → σ' t i = σ t i) : Rl τ σ' := by
  refine ⟨⟨?_, ?_, ?_, ?_, ?_, ?_⟩, fun i a b => ?_, fun i a b => ?_, fun i a b => ?_⟩
  · rw [e 1 0 (by omega) (by omega) (by omega)]; exact h.g0
  · rw [e 2 0 (by omega) (by omega) (by omega)]; exact h.g1
  · rw [e 3 0 (by omega) (by omega) (by omega)]; exact h.g2
  · rw [e 4 0 (by omega) (by omega) (by omega)]; exact h.g3
  · rw [e 14 0 (by omega) (by omega) (by omega)]; exact h.g4
  · rw [e 21 0 (by omega) (by omega) (by omega)]; exact h.g5
  · rw [e 5 0 (by omega) (by omega) (by omega)] at b
    unfold pS
    rw [e 6 i (by omega) (by omega) (by omega), e 8 i (by omega) (by omega) (by omega), e 9 i (by omega) (by omega) (by omega)]
    exact h.s ⟨a, b⟩
  · rw [e 11 0 (by omega) (by omega) (by omega)] at b
    rw [e 13 i (by omega) (by omega) (by omega)]
    exact h.p ⟨a, b⟩
  · rw [e 14 0 (by omega) (by omega) (by omega)] at b
    unfold pC
    rw [e 15 i (by omega) (by omega) (by omega), e 16 i (by omega) (by omega) (by omega), e 17 i (by omega) (by omega) (by omega), e 18 i (by omega) (by omega) (by omega), e 19 i (by omega) (by omega) (by omega), e 20 i (by omega) (by omega) (by omega)]
    exact h.2.2.2 i a b
/-- the six numbers alone -/
theorem Rl.glob {τ τ' σ σ' : zT} (h : Rl τ σ) (e : ∀ t i, t ≠ 0 → τ' t i = τ t i) (f : ∀ t i, 4 < t → t < 30 → t ≠ 10 → t ≠ 21 → σ' t i = σ t i) (g : τ' 0 0 = σ' 1 0 ∧ τ' 0 1 = σ' 2 0 ∧ τ' 0 2 = σ' 3 0 ∧ τ' 0 3 = σ' 4 0 ∧ τ' 0 4 = σ' 14 0 ∧ τ' 0 5 = σ' 21 0) : Rl τ' σ' := by
  refine ⟨g, fun i a b => ?_, fun i a b => ?_, fun i a b => ?_⟩
  · rw [f 5 0 (by omega) (by omega) (by omega) (by omega)] at b
    unfold pS
    rw [e 1 i (by omega), f 6 i (by omega) (by omega) (by omega) (by omega), f 8 i (by omega) (by omega) (by omega) (by omega), f 9 i (by omega) (by omega) (by omega) (by omega)]
    exact h.s ⟨a, b⟩
  · rw [f 11 0 (by omega) (by omega) (by omega) (by omega)] at b
    rw [e 2 i (by omega), f 13 i (by omega) (by omega) (by omega) (by omega)]
    exact h.p ⟨a, b⟩
  · rw [f 14 0 (by omega) (by omega) (by omega) (by omega)] at b
    unfold pC
    rw [e 3 i (by omega), e 4 i (by omega), e 5 i (by omega), f 15 i (by omega) (by omega) (by omega) (by omega), f 16 i (by omega) (by omega) (by omega) (by omega), f 17 i (by omega) (by omega) (by omega) (by omega), f 18 i (by omega) (by omega) (by omega) (by omega), f 19 i (by omega) (by omega) (by omega) (by omega), f 20 i (by omega) (by omega) (by omega) (by omega)]
    exact h.2.2.2 i a b
theorem Rl_call {τ τ' σ : zT} (h : Rl τ σ) (hU : σ 17 (σ 14 0) = 0) (k w : Int) (e3 : τ' 3 (σ 14 0) = k) (e4 : τ' 4 (σ 14 0) = w) (e5 : τ' 5 (σ 14 0) = -1) (eg : τ' 0 4 = σ 14 0 + 1) (eo : ∀ t i, ¬ (i = σ 14 0 ∧ (t = 3 ∨ t = 4 ∨ t = 5)) → ¬ (t = 0 ∧ i = 4) → τ' t i = τ t i) : Rl τ' (zst_call σ k w) := by
  have e14 : zst_call σ k w 14 0 = σ 14 0 + 1 := by simp [zst_call, zup]
  have ei : ∀ q j, q ≠ 14 → j ≠ σ 14 0 → zst_call σ k w q j = σ q j := fun q j hq hj => by
    unfold zst_call
    rw [zup_t hq, zup_i hj, zup_i hj, zup_i hj, zup_i hj, zup_i hj]
  have ev : ∀ q j, q ≠ 14 → q ≠ 15 → q ≠ 16 → q ≠ 18 → q ≠ 19 → q ≠ 20 → zst_call σ k w q j = σ q j := fun q j a b c d e f => by
    unfold zst_call
    rw [zup_t a, zup_t e, zup_t f, zup_t d, zup_t c, zup_t b]
  have n15 : zst_call σ k w 15 (σ 14 0) = k := by simp [zst_call, zup]
  have n16 : zst_call σ k w 16 (σ 14 0) = w := by simp [zst_call, zup]
  have n18 : zst_call σ k w 18 (σ 14 0) = -1 := by simp [zst_call, zup]
  have n19 : zst_call σ k w 19 (σ 14 0) = 0 := by simp [zst_call, zup]
  have n20 : zst_call σ k w 20 (σ 14 0) = -1 := by simp [zst_call, zup]
  refine ⟨⟨?_, ?_, ?_, ?_, ?_, ?_⟩, fun i a b => ?_, fun i a b => ?_, fun i a b => ?_⟩
  · rw [eo 0 0 (by omega) (by omega), ev 1 0 (by omega) (by omega) (by omega) (by omega) (by omega) (by omega)]; exact h.g0
  · rw [eo 0 1 (by omega) (by omega), ev 2 0 (by omega) (by omega) (by omega) (by omega) (by omega) (by omega)]; exact h.g1
  · rw [eo 0 2 (by omega) (by omega), ev 3 0 (by omega) (by omega) (by omega) (by omega) (by omega) (by omega)]; exact h.g2
  · rw [eo 0 3 (by omega) (by omega), ev 4 0 (by omega) (by omega) (by omega) (by omega) (by omega) (by omega)]; exact h.g3
  · rw [eg, e14]
  · rw [eo 0 5 (by omega) (by omega), ev 21 0 (by omega) (by omega) (by omega) (by omega) (by omega) (by omega)]; exact h.g5
  · rw [ev 5 0 (by omega) (by omega) (by omega) (by omega) (by omega) (by omega)] at b
    unfold pS
    rw [eo 1 i (by omega) (by omega), ev 6 i (by omega) (by omega) (by omega) (by omega) (by omega) (by omega), ev 8 i (by omega) (by omega) (by omega) (by omega) (by omega) (by omega), ev 9 i (by omega) (by omega) (by omega) (by omega) (by omega) (by omega)]
    exact h.s ⟨a, b⟩
  · rw [ev 11 0 (by omega) (by omega) (by omega) (by omega) (by omega) (by omega)] at b
    rw [eo 2 i (by omega) (by omega), ev 13 i (by omega) (by omega) (by omega) (by omega) (by omega) (by omega)]
    exact h.p ⟨a, b⟩
  · rw [e14] at b
    unfold pC
    by_cases q : i = σ 14 0
    · subst q
      rw [e3, e4, e5, n15, n16, n18, n19, n20, ev 17 _ (by omega) (by omega) (by omega) (by omega) (by omega) (by omega), hU]
      exact ⟨by omega, rfl, rfl⟩
    · rw [eo 3 i (by omega) (by omega), eo 4 i (by omega) (by omega), eo 5 i (by omega) (by omega), ei 15 i (by omega) q, ei 16 i (by omega) q, ei 17 i (by omega) q, ei 18 i (by omega) q, ei 19 i (by omega) q, ei 20 i (by omega) q]
      exact h.2.2.2 i a (by omega)
/-- who joins: the number -/
theorem zSetC {σ : zT} {k w : Int} (hb : zBit (σ 17 k) w = 0) : zSet (σ 17 k) w = σ 17 k + zPw w := by unfold zSet; rw [if_neg (by omega)]
theorem zClrC {σ : zT} {k w : Int} (hb : zBit (σ 17 k) w = 1) : zClr (σ 17 k) w = σ 17 k - zPw w := by unfold zClr; rw [if_pos hb]
theorem zjn_18 (σ : zT) (k w q : Int) : zjn σ k w q 18 k = if w = 2 then q else σ 18 k := by
  unfold zjn
  split
  · rw [zup_s]
  · rw [zup_t (by decide)]
theorem zLic {σ : zT} (h : zLaw σ) {q i : Int} (hq : 0 ≤ q ∧ q < 4) (hi : 0 ≤ i ∧ i < 6) : σ 12 q < σ 7 i ↔ q = 3 ∧ 3 ≤ i := by
  have a := h.2.2.2.1 i hi.1 hi.2
  have b := h.2.2.2.2 q hq.1 hq.2
  rw [a]
  by_cases e : q = 3
  · rw [if_pos e] at b; omega
  · rw [if_neg e] at b; omega
theorem zInv_jn {σ : zT} (h : zInv σ) {k w q : Int} (hk : 0 ≤ k ∧ k < σ 14 0) (hw : 0 ≤ w ∧ w ≤ 2) (hq : w = 2 → 0 ≤ q ∧ q < σ 11 0) : zInv (zjn σ k w q) := by
  have fk := h.c hk
  unfold zjn
  split
  · rename_i z
    exact zInv_18 (zInv_17 h (zSet_r fk.2.2.1 hw)) (by show -1 ≤ q ∧ q < σ 11 0; have := hq z; omega)
  · exact zInv_17 h (zSet_r fk.2.2.1 hw)
theorem zB_jn {σ : zT} (h : zB σ) (k w q : Int) : zB (zjn σ k w q) := by
  unfold zB
  rw [zjn_e σ k w q 5 0 (Or.inl (by decide)), zjn_e σ k w q 11 0 (Or.inl (by decide)), zjn_e σ k w q 14 0 (Or.inl (by decide))]
  exact h
theorem Rl_jn {τ τ' σ : zT} (h : Rl τ σ) {k w q x : Int} (hk : 0 ≤ k ∧ k < σ 14 0) (hb : zBit (σ 17 k) w = 0) (h18 : w = 2 → σ 18 k = -1) (hx : x = if w = 2 then pC σ k + (32 + 64 * (q + 1)) else pC σ k + 8 * zPw w) (e3 : τ' 3 k = x) (e : ∀ t i, ¬ (i = k ∧ t = 3) → τ' t i = τ t i) : Rl τ' (zjn σ k w q) := by
  refine h.conf hk (fun t i z => e t i (by omega)) (fun t i _ z _ _ => zjn_e σ k w q t i (by omega)) ?_ ?_
  · rw [e3, hx]
    unfold pC
    rw [zjn_17, zjn_18, zSetC hb, zjn_e σ k w q 15 k (Or.inl (by decide)), zjn_e σ k w q 19 k (Or.inl (by decide))]
    split
    · rename_i z
      have := h18 z
      rw [z, show zPw 2 = 4 from rfl]; omega
    · omega
  · rw [e 5 k (by omega), zjn_e σ k w q 20 k (Or.inl (by decide))]
    exact h.t hk
theorem zst_join_7 {σ : zT} {k w q : Int} (h : zSet (σ 17 k) w = 7) : zst_join σ k w q = zLook (zjn σ k w q) k := if_pos h
theorem zst_join_n {σ : zT} {k w q : Int} (h : zSet (σ 17 k) w ≠ 7) : zst_join σ k w q = zjn σ k w q := if_neg h
theorem zB_dr {σ : zT} (h : zB σ) (k w : Int) : zB (zdr σ k w) := h
theorem Rl_dr {τ τ' σ : zT} (h : Rl τ σ) {k w x : Int} (hI : zInv σ) (hB : zB σ) (hk : 0 ≤ k ∧ k < σ 14 0) (hw : 0 ≤ w ∧ w ≤ 2) (hb : zBit (σ 17 k) w = 1) (hx : x = if w = 2 then pC σ k % 32 else pC σ k % 1024 - 8 * zPw w) (e3 : τ' 3 k = x) (e5 : τ' 5 k = -1) (e : ∀ t i, ¬ (i = k ∧ (t = 3 ∨ t = 5)) → τ' t i = τ t i) : Rl τ' (zdr σ k w) := by
  have g := hI.c hk
  have b : σ 5 0 ≤ 6 ∧ σ 11 0 ≤ 4 ∧ σ 14 0 ≤ 10 := hB
  have t17 : zdr σ k w 17 k = zClr (σ 17 k) w := by unfold zdr; rw [zup_t (by decide), zup_t (by decide), zup_t (by decide), zup_s]
  have t18 : zdr σ k w 18 k = if w = 2 then -1 else σ 18 k := by unfold zdr; rw [zup_t (by decide), zup_t (by decide), zup_s]
  have t20 : zdr σ k w 20 k = -1 := by unfold zdr; rw [zup_t (by decide), zup_s]
  refine h.conf hk e (fun t i _ z _ _ => zdr_e σ k w t i (by omega)) ?_ ?_
  · rw [e3, hx]
    unfold pC
    rw [t17, t18, zdr_19, zClrC hb, zdr_e σ k w 15 k (by omega)]
    by_cases z : w = 2
    · rw [if_pos z, if_pos z, z, show zPw 2 = 4 from rfl]
      rw [z] at hb
      unfold zBit at hb
      simp at hb
      omega
    · rw [if_neg z, if_neg z]
      have p := zPw8 hw
      have q : zPw w ≤ σ 17 k := by
        have c := zClr_r g.2.2.1 hw
        rw [zClrC hb] at c
        omega
      omega
  · rw [e5, t20]
/-- a minute goes by -/
theorem Rl_tick {τ τ' σ : zT} (h : Rl τ σ) {t : Int} (e0 : τ' 0 0 = t) (e : ∀ k i, ¬ (k = 0 ∧ i = 0) → τ' k i = τ k i) : Rl τ' (zAdv σ 0 t) := by
  have a : ∀ k i, k ≠ 1 → zAdv σ 0 t k i = σ k i := fun k i hk => by rw [zAdv_0, zup_t hk]
  refine h.glob (fun k i hk => e k i (by omega)) (fun k i h1 _ _ _ => a k i (by omega)) ⟨e0, ?_, ?_, ?_, ?_, ?_⟩
  · rw [e 0 1 (by omega), a 2 0 (by omega)]; exact h.g1
  · rw [e 0 2 (by omega), a 3 0 (by omega)]; exact h.g2
  · rw [e 0 3 (by omega), a 4 0 (by omega)]; exact h.g3
  · rw [e 0 4 (by omega), a 14 0 (by omega)]; exact h.g4
  · rw [e 0 5 (by omega), a 21 0 (by omega)]; exact h.g5
/-- one conference further -/
theorem Rl_adv {τ τ' σ : zT} {i t : Int} (h : Rl τ (zAdv σ i t)) (hi : 0 ≤ i ∧ i < σ 14 0) (e : ∀ k j, ¬ (j = i ∧ k = 3) → τ' k j = τ k j) (e3 : τ' 3 i = pC σ i % 1024 + 1024 * zSt σ (i + 1) t i) (hI : zInv σ) (hB : zB σ) : Rl τ' (zAdv σ (i + 1) t) := by
  have g := hI.c hi
  have b : σ 5 0 ≤ 6 ∧ σ 11 0 ≤ 4 ∧ σ 14 0 ≤ 10 := hB
  refine h.conf (k := i) hi (fun k j z => e k j (by omega)) (fun k j h0 z h30 h10 => ?_) ?_ ?_
  · by_cases q : k = 19
    · subst q
      show zSt σ (i + 1) t j = zSt σ i t j
      exact zSt_ne (by omega)
    · by_cases q1 : k = 1
      · subst q1; rfl
      · rw [zAdv_o ⟨q1, q, h10, by omega, by omega⟩, zAdv_o ⟨q1, q, h10, by omega, by omega⟩]
  · rw [e3]
    show _ = σ 15 i + 8 * σ 17 i + 64 * (σ 18 i + 1) + 1024 * zSt σ (i + 1) t i
    unfold pC
    omega
  · rw [e 5 i (by omega)]
    exact h.t hi
