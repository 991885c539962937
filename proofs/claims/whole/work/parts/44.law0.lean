/-! the law: its rows -/
def ya (xs : Nat → Int32) (j : Int) : Int := (xs j.toNat).toInt
theorem ya_r (xs : Nat → Int32) (j : Int) : -2147483648 ≤ ya xs j ∧ ya xs j < 2147483648 := by
  have h1 := Int32.le_toInt (xs j.toNat)
  have h2 := Int32.toInt_lt (xs j.toNat)
  unfold ya
  omega
/-- the model keeps the throw's number 0 that a call begins with -/
theorem zPost_x {th an : Int} {σ σ1 σ' : zT} {rv : Option Value} (h : zPost th an σ1 (zup σ 0 0 th) rv σ') (h0 : σ1 0 0 = 0) : ∃ z, rv = some (.int (zI z)) ∧ (th = 0 → z = an) ∧ σ' 0 0 = th ∧ (th = 0 → σ' = σ1) ∧ (th ≠ 0 → σ' = zup σ 0 0 th) := by
  by_cases e : th = 0
  · obtain ⟨h1, h2⟩ := h.1 e
    exact ⟨an, h1, fun _ => rfl, by rw [h2, h0, e], fun _ => h2, fun z => absurd e z⟩
  · obtain ⟨⟨z, h1⟩, h2⟩ := h.2 e
    exact ⟨z, h1, fun q => absurd q e, by rw [h2, zup_s], fun q => absurd q e, fun _ => h2⟩
theorem zFin {D : va_G} {cO : ClassId} {A : Nat → Prop} {eE : Nat} {g : zG} {σ σ1 σ' : zT} {th : Int} {H : Heap} (h : RX D cO A eE g (if th = 0 then σ1 else zup σ 0 0 0) H) (h1 : th = 0 → σ' = σ1) (h2 : th ≠ 0 → σ' = zup σ 0 0 th) : RX D cO A eE g σ' H := by
  by_cases e : th = 0
  · rw [if_pos e] at h; rw [h1 e]; exact h
  · rw [if_neg e] at h
    rw [h2 e]
    refine h.eq0 (fun k j hk => ?_)
    have k0 : k ≠ 0 := fun q => hk (by rw [q]; rfl)
    rw [zup_t k0, zup_t k0]
theorem z_cmp_eq (x : Int64) : lg_cmp x x = zI 0 := by
  have h : ¬ x > x := fun q => by
    have := Int64.lt_iff_toInt_lt.mp q
    omega
  unfold lg_cmp
  rw [if_neg h, if_pos rfl]
  rfl
section LR
variable {l : Launch} {p : Program} {e : Env} {R : Room} {s : State} {m : MethodId} {args : Array Value} {below : List Frame} {meth : Method} {c : Code} {H H0 : Heap} {locs : List Loc} {cells slots : Nat} {Q : State → Prop} {cc bytes : ByteArray} {pc nL maxL index n : Nat} {ls : Array Slot} {st0 rest As : List Value} {y : MethodName} {ret : Option FieldType} {ws : List Cond} {rm : Room} {Ts : List Cond} {own C : String} {D : va_G} {cI cO cL : ClassId} {A : Nat → Prop} {eE mi o b : Nat} {sa : Nat → Nat} {hh : List (Nat × Nat × Nat × Nat)}
theorem z_sc (hexec : p.tables.exec = Jvm.exec) (hb : c.code = cc) {b L : Nat} {xs : Nat → Int32} (hX : va_X b L xs s s.heap) (hbl : b < s.heap.size) (hL : L ≤ 2560) (hz : s.heap.size ≤ H.size) (hk : ∀ q : Nat, q < s.heap.size → H[q]? = s.heap[q]?) {j : Int} (hj : 0 ≤ j ∧ j < L) (hdg : decode cc pc = .ok (.iaload, 1))
    (kk : W p l e R s m args below meth c H [] cells slots Q (F0 m (pc + 1) ls (.int (zI (ya xs j)) :: rest))) : W p l e R s m args below meth c H [] cells slots Q (F0 m pc ls (.int (zI j) :: .ref b :: rest)) := by
  refine va_sld (A := fun q => s.heap.size ≤ q) hexec hb hX hbl (by omega) ⟨hz, fun q h1 _ => hk q h1, fun q hq => absurd hq List.not_mem_nil⟩ (zI_in (by omega)) hdg ?_
  rw [zI_clamp (by omega), show xs j.toNat = zI (ya xs j) from (zI_of _).symm]
  exact kk
theorem z_scl (hexec : p.tables.exec = Jvm.exec) (hb : c.code = cc) {b L : Nat} {xs : Nat → Int32} (hX : va_X b L xs s s.heap) (hbl : b < s.heap.size) (hz : s.heap.size ≤ H.size) (hk : ∀ q : Nat, q < s.heap.size → H[q]? = s.heap[q]?) (hdg : decode cc pc = .ok (.arraylength, 1))
    (kk : W p l e R s m args below meth c H [] cells slots Q (F0 m (pc + 1) ls (.int (zI (L : Int)) :: rest))) : W p l e R s m args below meth c H [] cells slots Q (F0 m pc ls (.ref b :: rest)) := by
  refine va_slen (A := fun q => s.heap.size ≤ q) hexec hb hX hbl (by omega) ⟨hz, fun q h1 _ => hk q h1, fun q hq => absurd hq List.not_mem_nil⟩ hdg ?_
  rw [zI_nat]
  exact kk
/-- a call of a helper -/
theorem z_lS {P : Option Value → Heap → Prop} (S : CallFix p m c cc nL s args Ts own) (hM : zLM l y ws rm D cI cO cL A eE mi sa o As H P) (cw : vx_CSW R s args own index y bytes maxL ret hh ws rm rm.cells rm.slots n) (hpre : ∀ U : State, U.heap = H → s.WarmedH U.vm → GL D cI cO cL A eE mi sa U)
    (hn : As.length = n) (hsize : ls.size = nL) (hst : st0 = As.reverse ++ rest) (hW : (rest.map fun v => v.category).sum ≤ 8) (hdg : decode cc pc = .ok (.invokestatic index, 3)) (hf : cells + rm.cells ≤ R.cells ∧ slots + rm.slots ≤ R.slots)
    (kk : ∀ (r : Option Value) (H1 : Heap) (L : List Loc), P r H1 → H.size ≤ H1.size → (∀ q : Nat, q < H.size → ¬ (A q ∨ q = o) → H1[q]? = H[q]?) → (∀ q ∈ L, A q.base ∨ q.base = o) → W p l e R s m args below meth c H1 (locs ++ L) (cells + rm.cells) (slots + rm.slots) Q (F0 m (pc + 3) ls (r.toList ++ rest))) : W p l e R s m args below meth c H locs cells slots Q (F0 m pc ls st0) := by
  have hr := vx_runSX (l := l) (below := below) (meth := meth) (H := H) (locs := locs) (cells := cells) (slots := slots) (p := p) (e := e) (As := As) (rest := rest) (g := F0 m pc ls st0) S hM cw ⟨fun a U g mk q => ⟨q.1, q.2.1, GL.same (u := U) (U := U.calling g mk a) rfl rfl q.2.2⟩, fun U hU hWm => ⟨rfl, hU, hpre U hU hWm⟩⟩ rfl hn hsize hst (lv_room (pc := pc) (ls := ls) (rest := st0) (m := m) hW) hdg hf
  intro T hT X
  rcases hr T hT X with ⟨v, st₀, t, T', L, h0, X', hL, e1, e2, ⟨⟨r, hv, hp⟩, hF⟩, st⟩ | ⟨q, st₀, t, T', L, E, ce, h0, X', hL, e1, e2, hx, hce, hcv, hcl, st⟩
  · cases hv
    obtain ⟨t2, a1, b1⟩ := kk v T'.heap L (by rw [e1]; exact hp) (by rw [e1, ← h0]; exact hF.1) (fun q h1 h2 => by rw [e1, ← h0]; exact hF.2 q (by rw [h0]; exact h1) h2) hL T' rfl X'
    exact ⟨t2, st t2 a1, b1⟩
  · exact absurd hx id
/-- a call of the reference -/
theorem z_wmL {ma : Nat → Nat} {post : Option Value → zT → Prop} (S : CallFix p m c cc nL s args Ts own) (hM : zWM l y ws rm D cI cO cL b ma (.ref b :: As) H post) (cw : CallW R s args own C index y bytes maxL ret ws rm 0 0 n) (hK : zKK D cI cO cL s) (hr : ∃ cellB : Cell, H[b]? = some cellB ∧ cellB.vm.isStatics = false ∧ s.vm.findClass C = some cellB.cls)
    (hn : As.length = n) (hsize : ls.size = nL) (hst : st0 = As.reverse ++ .ref b :: rest) (hW : (rest.map fun v => v.category).sum ≤ 8) (hdg : decode cc pc = .ok (.invokevirtual index, 3)) (hf : cells ≤ R.cells ∧ slots ≤ R.slots)
    (kk : ∀ (r : Option Value) (σ' : zT) (H1 : Heap) (L : List Loc), post r σ' → RM D cI b ma σ' H1 → H1.size = H.size → (∀ q : Nat, q < H.size → ¬ AM b ma q → H1[q]? = H[q]?) → (∀ q ∈ L, AM b ma q.base) → W p l e R s m args below meth c H1 (locs ++ L) cells slots Q (F0 m (pc + 3) ls (r.toList ++ rest))) : W p l e R s m args below meth c H locs cells slots Q (F0 m pc ls st0) := by
  refine z_run (va_runV S hM cw ⟨fun a U g mk q => ⟨q.1, q.2.1, va_K.moved (u := U) (U := U.calling g mk a) (Vm.Alike.refl U.vm) q.2.2⟩, hr, fun U hU hWm => ⟨rfl, hU, va_K.moved hWm.alike hK⟩⟩ rfl hn hsize hst (lv_room (pc := pc) (ls := ls) (rest := st0) (m := m) hW) hdg hf) (fun v st₀ t H1 L h0 h1 hv hq hL => ?_)
  obtain ⟨⟨r, σ', hr1, hp, hRM⟩, hz, hk⟩ := hq
  cases hr1
  rw [h0] at hz hk
  rw [h1] at hRM hz hk
  exact kk v σ' H1 L hp hRM hz hk hL
end LR
/-- what a call leaves the throw's number at, when it throws not -/
theorem z00_join (σ : zT) (k w q : Int) : zst_join σ k w q 0 0 = σ 0 0 := by
  unfold zst_join
  split
  · rw [zLook_o (by decide) (by decide), zjn_e σ k w q 0 0 (Or.inl (by decide))]
  · exact zjn_e σ k w q 0 0 (Or.inl (by decide))
theorem z00_drop (σ : zT) (k w : Int) : zst_drop σ k w 0 0 = σ 0 0 := by
  unfold zst_drop
  rw [zup_t (by decide)]
  split
  · rw [zDrops_o (by decide) (by decide)]; rfl
  · rfl
theorem z00_again (σ : zT) (k : Int) : zst_again σ k 0 0 = σ 0 0 := zLook_o (by decide) (by decide)
/-- what holds all through the law's loop -/
def LC (l : Launch) (p : Program) (s : State) (m : MethodId) (c : Code) (b L : Nat) (xs : Nat → Int32) (D : va_G) (cI cO cL : ClassId) (A : Nat → Prop) (eE mi : Nat) (sa : Nat → Nat) (bm : Nat) (ma : Nat → Nat) (o h3 : Nat) : Prop :=
  (p.tables.exec = Jvm.exec ∧ c.code = cL_law ∧ c.maxLocals = 7 ∧ s.vm.findClass RL = some m.cls ∧ ∀ w ∈ wsL_law, w.before #[Value.ref b] s = true) ∧ (va_X b L xs s s.heap ∧ b < s.heap.size ∧ L ≤ 2560) ∧ zKK D cI cO cL s ∧ MA bm ma ∧ l.stackTraces = false ∧
  (∀ (U : State), s.WarmedH U.vm → h3 ≤ U.heap.size → (∀ q : Nat, q < s.heap.size → U.heap[q]? = s.heap[q]?) → GL D cI cO cL A eE mi sa U) ∧
  (∀ q, A q → q ≠ o ∧ ¬ AM bm ma q ∧ s.heap.size ≤ q) ∧ ¬ AM bm ma o ∧ (s.heap.size ≤ o ∧ o < h3) ∧ (∀ q, AM bm ma q → s.heap.size ≤ q ∧ q < h3) ∧ s.heap.size ≤ h3
/-- where the loop stands -/
def LZ (s : State) (D : va_G) (cI cO cL : ClassId) (A : Nat → Prop) (eE x0 bm : Nat) (ma : Nat → Nat) (o h3 : Nat) (σ : zT) (H : Heap) : Prop :=
  (∃ g : zG, g 0 0 = x0 ∧ RX D cO A eE g σ H) ∧ RM D cI bm ma σ H ∧ zAll σ ∧ (∃ f : Nat → Int64, va_at D vwCl (o, zOut cL f) H) ∧ h3 ≤ H.size ∧ ∀ q : Nat, q < s.heap.size → H[q]? = s.heap[q]?
