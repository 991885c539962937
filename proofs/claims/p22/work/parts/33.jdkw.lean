/-! the JDK's list: what grows it -/
theorem z_P2 {D : va_G} {cl : List vw_C} {q q2 : Nat × va_E} {H : Heap} (h : va_at D cl q H) (h2 : va_at D cl q2 H) : va_P D cl [q, q2] H := by
  intro k x hx
  match k, hx with
  | 0, hx => cases hx; exact h
  | 1, hx => cases hx; exact h2
  | k + 2, hx => simp at hx
theorem z_D2 {A : Nat → Prop} {q q2 : Nat × va_E} (h : q.1 ≠ q2.1) (h1 : A q.1) (h2 : A q2.1) : va_D A [q, q2] := by
  refine ⟨fun i j x y hi hj e => ?_, fun k x hx => ?_⟩
  · match i, j, hi, hj with
    | 0, 0, hi, hj => rfl
    | 0, 1, hi, hj => cases hi; cases hj; exact absurd e h
    | 1, 0, hi, hj => cases hi; cases hj; exact absurd e.symm h
    | 1, 1, hi, hj => rfl
    | i + 2, _, hi, hj => simp at hi
    | _, j + 2, hi, hj => simp at hj
  · match k, hx with
    | 0, hx => cases hx; exact h1
    | 1, hx => cases hx; exact h2
    | k + 2, hx => simp at hx
theorem z_cell {D : va_G} {cl : List vw_C} {a : Nat} {cA : ClassId} {x : vp_A} {H H1 : Heap} (h : va_at D cl (a, .inl (cA, x)) H) (h1 : va_at D cl (a, .inl (cA, x)) H1) : H1[a]? = H[a]? := by
  rw [show H1[a]? = some (vp_cell cA x) from h1, show H[a]? = some (vp_cell cA x) from h]
theorem z_cname {s : State} {a b : String} {i : ClassId} (h1 : s.vm.findClass a = some i) (h2 : s.vm.findClass b = some i) : b = a := by
  obtain ⟨k1, q1, n1⟩ := Vm.findClass_spec h1
  obtain ⟨k2, q2, n2⟩ := Vm.findClass_spec h2
  cases Option.some.inj (q1.symm.trans q2)
  exact n2.symm.trans n1
theorem z_oname {D : va_G} {cI cO cL : ClassId} {s : State} (hK : zKK D cI cO cL s) : s.vm.findClass "[Ljava/lang/Object;" = some cO := by
  obtain ⟨kA2, comp2, g1, g2, g3, g4⟩ := (hK.2 1 (cO, .object "java/lang/Object") rfl).2
  have e : ("[" ++ (FieldType.object "java/lang/Object").toString) = "[Ljava/lang/Object;" := by decide +kernel
  rw [e] at g4
  exact g4
section ZS
variable {p : Program} {l : Launch} {e : Env} {R : Room} {s : State} {m : MethodId} {args : Array Value} {below : List Frame} {meth : Method} {c : Code} {H : Heap} {locs : List Loc} {cells slots : Nat} {Q : State → Prop}
variable {cc : ByteArray} {pc : Nat} {ls : Array Slot} {rest : List Value} {D : va_G} {cl : List vw_C} {A : Nat → Prop} {a : Nat} {tys : List (ClassId × FieldType)} {H0 : Heap}
theorem z_getS (hexec : p.tables.exec = Jvm.exec) (hb : c.code = cc) {own ref C : String} {T : u_T} {N ci index : Nat} {Ts : List Cond} (hts : ∀ w ∈ Ts, w.before args s = true) (hin : ∀ w ∈ u_ws C T N, w ∈ Ts) (hown : s.vm.findClass own = some m.cls) (hK : va_K D cl tys s) {fs : List Value} (ho : va_at D cl (a, .inr (ci, fs)) H) (hc : cl[ci]? = some (C, T, N)) (k : Nat) (hk : k < N) (hlink : (Cond.fieldLink own index ref (T k).2.1 (T k).2.2.1) ∈ Ts) (hsame : (Cond.sameField ref (T k).1 (T k).2.1 (T k).2.2.1) ∈ Ts) {v : Value} (hv : fs[k]? = some v) (hdg : decode cc pc = .ok (.getfield index, 3))
    (kk : W p l e R s m args below meth c H locs cells slots Q (F0 m (pc + 3) ls (v :: rest))) : W p l e R s m args below meth c H locs cells slots Q (F0 m pc ls (.ref a :: rest)) :=
  va_get (ws := [(a, .inr (ci, fs))]) hexec hb hts hin hown hK (z_P1 ho) 0 rfl hc k hk (hts _ hlink) (fun x h9 => u_same (hts _ hsame) x h9) hv hdg kk
theorem z_putS (hexec : p.tables.exec = Jvm.exec) (hb : c.code = cc) {own ref C : String} {T : u_T} {N ci index : Nat} {Ts : List Cond} (hts : ∀ w ∈ Ts, w.before args s = true) (hin : ∀ w ∈ u_ws C T N, w ∈ Ts) (ty0 : Nat → FieldType) (hty : ∀ k, k < N → parseFieldDescriptor (T k).2.2.1 = some (ty0 k)) (hnm : ∀ a, a < N → ∀ b, b < N → a ≠ b → (T a).2.1 ≠ (T b).2.1) (hown : s.vm.findClass own = some m.cls) (hK : va_K D cl tys s) {fs : List Value} (ho : va_at D cl (a, .inr (ci, fs)) H) (hA : A a) (hS0 : va_S A H0 H locs) (hc : cl[ci]? = some (C, T, N)) (k : Nat) (hk : k < N) (hlink : (Cond.fieldLink own index ref (T k).2.1 (T k).2.2.1) ∈ Ts) (hsame : (Cond.sameField ref (T k).1 (T k).2.1 (T k).2.2.1) ∈ Ts) (hfin : (T k).2.2.2 = false) {v : Value} (hn : narrow (ty0 k) v = v) (hfit : fits (ty0 k) v = true) (hl : k < fs.length)
    (hdg : decode cc pc = .ok (.putfield index, 3)) (kk : ∀ (H1 : Heap) (locs1 : List Loc), va_at D cl (a, .inr (ci, fs.set k v)) H1 → H1.size = H.size → (∀ q : Nat, q ≠ a → H1[q]? = H[q]?) → va_S A H0 H1 locs1 → W p l e R s m args below meth c H1 locs1 cells slots Q (F0 m (pc + 3) ls rest)) : W p l e R s m args below meth c H locs cells slots Q (F0 m pc ls (v :: .ref a :: rest)) := by
  have hap := va_apart (own := own) hts hin ty0 hty hnm hK hc
  obtain ⟨r, h1, cell, q1, q2, q3, q4⟩ := ho
  have hr : r = (C, T, N) := Option.some.inj (h1.symm.trans hc)
  subst hr
  obtain ⟨hS, hfc, kC, hkC, hkind⟩ := hK.1 ci _ hc
  obtain ⟨cf, kf, fi, f, hi, hsl⟩ := hS k hk
  have hlay := hts _ (hin _ (u_in_lay hk))
  unfold u_lay at hlay
  rw [if_neg (by rw [hfin]; decide)] at hlay
  have hst := (u_facts hfc hkC (u_lays hts hin hk) hi).1
  have h6 := u_store hfc hkC hkind hlay hi (hty k hk) hn hfit
  refine W.putK hexec hb (f := f) ⟨hown, hts _ hlink, ⟨_, _, _, u_same (hts _ hsame) _ hi⟩, hst⟩ (by rw [q2]; exact h6) q1 q3 (by rw [hsl]; exact k2_hasslot (q4 k hk)) rfl rfl hdg fun H' e1 e2 e3 => ?_
  rw [hsl] at e1 ⊢
  exact kk H' _ ⟨_, hc, t_OB.to (V := updV (vp_V fs) k v) ⟨_, e1, q2, q3, t_set q4 hap hk v⟩ (fun j _ => vp_updV_set hl v j)⟩ e2 e3 (hS0.put e2 e3 hA)
end ZS

theorem lk_J7_copyOf_6403c_a : Cond.classLink RJ7 110 "[Ljava/lang/Object;" ∈ wsJ7_copyOf_6403c := by decide +kernel
theorem lk_J7_copyOf_6403c_b : Cond.classLink RJ7 2 "java/lang/Object" ∈ wsJ7_copyOf_6403c := by decide +kernel
theorem lk_J7_copyOf_6403c_c : Cond.methodLink RJ7 150 arraycopyName ∈ wsJ7_copyOf_6403c := by decide +kernel
theorem lk_J7_copyOf_6403c_d : Cond.native arraycopyName ∈ wsJ7_copyOf_6403c := by decide +kernel
theorem lk_J7_copyOf_6403c_e : Cond.static arraycopyName ∈ wsJ7_copyOf_6403c := by decide +kernel
theorem lk_J7_copyOf_6403c_f : Cond.initialized "java/lang/System" ∈ wsJ7_copyOf_6403c := by decide +kernel
theorem ml_J7_copyOf_6403c_304_0 : Cond.methodLink RJ7 304 Lib.Math.min.name ∈ wsJ7_copyOf_6403c := by decide +kernel
theorem ml_J7_copyOf_6403c_304_1 : Cond.static Lib.Math.min.name ∈ wsJ7_copyOf_6403c := by decide +kernel
theorem ml_J7_copyOf_6403c_304_2 : Cond.initialized "java/lang/Math" ∈ wsJ7_copyOf_6403c := by decide +kernel
theorem ml_J7_copyOf_6403c_304_3 : Cond.code Lib.Math.min.name Lib.Math.min.code 2 (some .int) ∈ wsJ7_copyOf_6403c := by decide +kernel
set_option maxRecDepth 100000 in
set_option maxHeartbeats 4000000 in
theorem c_J7_copyOf_6403c (l : Launch) (D : va_G) (cI cO cL : ClassId) (A : Nat → Prop) (eE mi : Nat) (sa : Nat → Nat) (H0 : Heap) (a0 n k : Nat) (f : Nat → Option Nat) (h0 : va_at D vwCl (a0, zQ cO n f) H0) (hk : n ≤ k ∧ k ≤ 60) (hf : ∀ j, n ≤ j → f j = none) (hel : ∀ j y, f j = some y → xIsE D H0 y) : zGM l yJ7_copyOf_6403c wsJ7_copyOf_6403c ({ frames := 1, cells := 1, slots := 60, locals := 60 }) D cI cO cL A eE mi sa [.ref a0, .int (zI (k : Int)), .ref mi] H0 (fun r H1 => r = some (.ref H0.size) ∧ va_at D vwCl (H0.size, zQ cO k f) H1 ∧ H0.size < H1.size ∧ ∀ q : Nat, q < H0.size → H1[q]? = H0[q]?) (fun q => q = a0 ∨ H0.size ≤ q) := by
  refine Met.ofW (cc := cJ7_copyOf_6403c) (maxL := 4) (ret := (some (.array (.object "java/lang/Object")))) (by decide) rfl ?_
  intro p e s m args below meth c s₁ B hml hv
  obtain ⟨rfl, hH, hG⟩ := hv
  subst hH
  have hK := hG.k
  have hx := B.exec
  have hb := B.bytes
  have hr := B.returns
  have hts := atoms_spec (ws := wsJ7_copyOf_6403c) B.pre
  have hown : s.vm.findClass RJ7 = some m.cls := findClass_of_methodNamed B.named
  have hlocks := B.notSynchronized
  have hl := lv_entry ([.ref a0, .int (zI (k : Int)), .ref mi]) (n := 4) (Nat.le_of_ble_eq_true rfl)
  rw [lg_entry_eq]
  generalize (lg_sl ([.ref a0, .int (zI (k : Int)), .ref mi]) ++ List.replicate (4 - (lg_sl ([.ref a0, .int (zI (k : Int)), .ref mi])).length) Slot.unset).toArray = ls at hl ⊢
  have hl : lv_has ls 4 [(0, .ref a0), (1, .int (zI (k : Int))), (2, .ref mi)] := hl
  refine lv_aload_n hx hb dJ7_copyOf_6403c_0 rfl (lv_at hl 2 rfl) ?_
  refine va_ldcM hx hb hown (hts _ lk_J7_copyOf_6403c_a) hG.2.2.2.2.2.2.2.2.1 dJ7_copyOf_6403c_1 ?_
  refine lv_acmp_ne (rx := some mi) (ry := some mi) (tgt := 13) hx hb dJ7_copyOf_6403c_3 (by decide) (fun c => absurd rfl c) (fun _ => ?_)
  refine lv_iload_n hx hb dJ7_copyOf_6403c_6 rfl (lv_at hl 1 rfl) ?_
  refine z_newq hx hb hown (hts _ lk_J7_copyOf_6403c_b) hG.2.2.2.2.2.2.2.1 hK (F := fun q => q = a0 ∨ s.heap.size ≤ q) va_S.rf (by omega) (Nat.le_of_ble_eq_true rfl) (by show 0 + k ≤ 60; omega) dJ7_copyOf_6403c_7 (fun H1 hq1 hz1 ho1 hS1 => ?_)
  refine lv_goto (tgt := 24) hx hb dJ7_copyOf_6403c_10 (by decide) ?_
  refine lv_astore_n (lv' := [(3, .ref s.heap.size), (0, .ref a0), (1, .int (zI (k : Int))), (2, .ref mi)]) hx hb dJ7_copyOf_6403c_24 rfl hl (by decide) rfl (fun ls hl => ?_)
  have h0' : va_at D vwCl (a0, zQ cO n f) H1 := h0.kept (ho1 a0 (z_lt h0))
  refine lv_aload_n hx hb dJ7_copyOf_6403c_25 rfl (lv_at hl 1 rfl) ?_
  refine z_iconst hx hb dJ7_copyOf_6403c_26 ?_
  refine lv_aload_n hx hb dJ7_copyOf_6403c_27 rfl (lv_at hl 0 rfl) ?_
  refine z_iconst hx hb dJ7_copyOf_6403c_28 ?_
  refine lv_aload_n hx hb dJ7_copyOf_6403c_29 rfl (lv_at hl 1 rfl) ?_
  refine z_alen hx hb hK 1 h0' rfl dJ7_copyOf_6403c_30 ?_
  refine z_top (b := (n : Int)) rfl ?_
  refine lv_iload_n hx hb dJ7_copyOf_6403c_31 rfl (lv_at hl 2 rfl) ?_
  refine z_mmin hx hb (hml.trans hl.1.symm) hts hown ml_J7_copyOf_6403c_304_0 ml_J7_copyOf_6403c_304_1 ml_J7_copyOf_6403c_304_2 ml_J7_copyOf_6403c_304_3 (Nat.le_of_ble_eq_true rfl) (Nat.le_of_ble_eq_true rfl) ⟨Nat.le_of_ble_eq_true rfl, by show 0 + k ≤ 60; omega⟩ (by omega) dJ7_copyOf_6403c_32 ?_
  refine z_top (b := (n : Int)) (by omega) ?_
  have e0 : (zI 0).toNatClampNeg = 0 := by decide
  have en : (zI (n : Int)).toNatClampNeg = n := by rw [zI_clamp (by omega)]; exact Int.toNat_natCast n
  refine va_copyM (A := fun q => q = a0 ∨ s.heap.size ≤ q) (ws := [(a0, zQ cO n f), (s.heap.size, zQ cO k (fun _ => none))]) hx hb (hml.trans hl.1.symm) hown (hts _ lk_J7_copyOf_6403c_c) (hts _ lk_J7_copyOf_6403c_d) (hts _ lk_J7_copyOf_6403c_e) (hts _ lk_J7_copyOf_6403c_f) hK (z_P2 h0' hq1) (z_D2 (fun q => by have := z_lt h0; have q : a0 = s.heap.size := q; omega) (Or.inl rfl) (Or.inr (Nat.le_refl _))) (H0 := H1) va_S.rf 0 1 1 1 rfl rfl rfl rfl (by decide) (by decide) (zI_nonneg (by omega)) (by rw [e0, en]; omega) (by rw [e0, en]; omega) (fun i hi y hy => ?_) (Nat.le_of_ble_eq_true rfl) (Nat.le_of_ble_eq_true rfl) dJ7_copyOf_6403c_35 (fun H2 locs2 hP2 hD2 hS2 => ?_)
  · obtain ⟨ci, fs, h1, h2⟩ := hel _ y hy
    exact x_any hG ⟨ci, fs, h1, h2.kept (ho1 y (z_lt h2))⟩
  refine lv_aload_n hx hb dJ7_copyOf_6403c_38 rfl (lv_at hl 0 rfl) ?_
  have hq2 : va_at D vwCl (s.heap.size, zQ cO k f) H2 := by
    have h := hP2 1 _ rfl
    rw [e0, en] at h
    have e : va_cpy f (fun _ => none) 0 0 n = f := by
      funext j
      unfold va_cpy
      by_cases q : j < n
      · rw [if_pos ⟨Nat.zero_le _, by omega⟩]; congr 1; omega
      · rw [if_neg (fun z => q (by omega)), hf j (by omega)]
    rw [e] at h
    exact h
  have hk0 : H2[a0]? = H1[a0]? := z_cell h0' (hP2 0 _ rfl)
  exact W.widen (k := 1) (n := 60) (Nat.le_of_ble_eq_true rfl) (by show 0 + k ≤ 60; omega) (W.aret hx hb hr (Or.inr ⟨_, rfl⟩) (Or.inr ⟨_, rfl⟩) (z_endP (P := fun r H1 => r = some (.ref s.heap.size) ∧ va_at D vwCl (s.heap.size, zQ cO k f) H1 ∧ s.heap.size < H1.size ∧ ∀ q : Nat, q < s.heap.size → H1[q]? = s.heap[q]?) ⟨rfl, hq2, z_lt hq2, fun q hq => by
    by_cases e : q = a0
    · rw [e, hk0]; exact ho1 a0 (z_lt h0)
    · rw [hS2.2.1 q (by omega) (fun z => by rcases z with z | z; exact e z; omega)]; exact ho1 q hq⟩) (fun q hq => hS2.2.2 q hq) dJ7_copyOf_6403c_39)

theorem lk_J7_copyOf_1904c_a : Cond.methodLink RJ7 86 ⟨"java/lang/Object", "getClass", "()Ljava/lang/Class;"⟩ ∈ wsJ7_copyOf_1904c := by decide +kernel
theorem lk_J7_copyOf_1904c_b : Cond.selects "[Ljava/lang/Object;" ⟨"java/lang/Object", "getClass", "()Ljava/lang/Class;"⟩ ⟨"java/lang/Object", "getClass", "()Ljava/lang/Class;"⟩ ∈ wsJ7_copyOf_1904c := by decide +kernel
theorem lk_J7_copyOf_1904c_c : Cond.instanceMethod ⟨"java/lang/Object", "getClass", "()Ljava/lang/Class;"⟩ ∈ wsJ7_copyOf_1904c := by decide +kernel
theorem lk_J7_copyOf_1904c_d : Cond.native ⟨"java/lang/Object", "getClass", "()Ljava/lang/Class;"⟩ ∈ wsJ7_copyOf_1904c := by decide +kernel
set_option maxRecDepth 100000 in
set_option maxHeartbeats 4000000 in
theorem c_J7_copyOf_1904c (l : Launch) (D : va_G) (cI cO cL : ClassId) (A : Nat → Prop) (eE mi : Nat) (sa : Nat → Nat) (H0 : Heap) (a0 n k : Nat) (f : Nat → Option Nat) (h0 : va_at D vwCl (a0, zQ cO n f) H0) (hk : n ≤ k ∧ k ≤ 60) (hf : ∀ j, n ≤ j → f j = none) (hel : ∀ j y, f j = some y → xIsE D H0 y) : zGM l yJ7_copyOf_1904c wsJ7_copyOf_1904c ({ frames := 2, cells := 1, slots := 60, locals := 90 }) D cI cO cL A eE mi sa [.ref a0, .int (zI (k : Int))] H0 (fun r H1 => r = some (.ref H0.size) ∧ va_at D vwCl (H0.size, zQ cO k f) H1 ∧ H0.size < H1.size ∧ ∀ q : Nat, q < H0.size → H1[q]? = H0[q]?) (fun q => q = a0 ∨ H0.size ≤ q) := by
  refine Met.ofW (cc := cJ7_copyOf_1904c) (maxL := 2) (ret := (some (.array (.object "java/lang/Object")))) (by decide) rfl ?_
  intro p e s m args below meth c s₁ B hml hv
  obtain ⟨rfl, hH, hG⟩ := hv
  subst hH
  have hK := hG.k
  have hx := B.exec
  have hb := B.bytes
  have hr := B.returns
  have hts := atoms_spec (ws := wsJ7_copyOf_1904c) B.pre
  have hown : s.vm.findClass RJ7 = some m.cls := findClass_of_methodNamed B.named
  have hlocks := B.notSynchronized
  have hl := lv_entry ([.ref a0, .int (zI (k : Int))]) (n := 2) (Nat.le_of_ble_eq_true rfl)
  rw [lg_entry_eq]
  generalize (lg_sl ([.ref a0, .int (zI (k : Int))]) ++ List.replicate (2 - (lg_sl ([.ref a0, .int (zI (k : Int))])).length) Slot.unset).toArray = ls at hl ⊢
  have hl : lv_has ls 2 [(0, .ref a0), (1, .int (zI (k : Int)))] := hl
  refine lv_aload_n hx hb dJ7_copyOf_1904c_0 rfl (lv_at hl 0 rfl) ?_
  refine lv_iload_n hx hb dJ7_copyOf_1904c_1 rfl (lv_at hl 1 rfl) ?_
  refine lv_aload_n hx hb dJ7_copyOf_1904c_2 rfl (lv_at hl 0 rfl) ?_
  refine va_getC (C := "[Ljava/lang/Object;") hx hb (hml.trans hl.1.symm) hown (hts _ lk_J7_copyOf_1904c_a) (va_Dc.use hG.2.2.2.2.2.2.2.2.2.1) (hts _ lk_J7_copyOf_1904c_b) (hts _ lk_J7_copyOf_1904c_c) (hts _ lk_J7_copyOf_1904c_d) hG.2.2.2.2.2.2.2.2.1 ⟨_, h0, rfl, z_oname hK⟩ (Nat.le_of_ble_eq_true rfl) (Nat.le_of_ble_eq_true rfl) dJ7_copyOf_1904c_3 ?_
  refine z_gS (As := [.ref a0, .int (zI (k : Int)), .ref mi]) (rest := []) ⟨hx, hb, hml, hown, hts⟩ (c_J7_copyOf_6403c l D cI cO cL A eE mi sa s.heap a0 n k f h0 hk hf hel) (va_cwS 3 hts gJ7_copyOf_1904c_J7_copyOf_6403c rfl rfl rfl (by decide +kernel) ⟨(Nat.le_of_ble_eq_true rfl), (Nat.le_of_ble_eq_true rfl)⟩) hG va_S.rf rfl hl.1 rfl (Nat.le_of_ble_eq_true rfl) dJ7_copyOf_1904c_6 ⟨(Nat.le_of_ble_eq_true rfl), (Nat.le_of_ble_eq_true rfl)⟩ (fun r H1 L hp hL => ?_)
  obtain ⟨e1, p2, p3, p4⟩ := hp
  rw [e1]
  exact W.aret hx hb hr (Or.inr ⟨_, rfl⟩) (Or.inr ⟨_, rfl⟩) (z_endP (P := fun r H1 => r = some (.ref s.heap.size) ∧ va_at D vwCl (s.heap.size, zQ cO k f) H1 ∧ s.heap.size < H1.size ∧ ∀ q : Nat, q < s.heap.size → H1[q]? = s.heap[q]?) ⟨rfl, p2, p3, p4⟩) (fun q hq => hL q (by simpa using hq)) dJ7_copyOf_1904c_9

theorem lk_J8_newLength_cabcc_a : Cond.constant RJ8 200 (2147483639) ∈ wsJ8_newLength_cabcc := by decide +kernel
theorem ml_J8_newLength_cabcc_194_0 : Cond.methodLink RJ8 194 Lib.Math.max.name ∈ wsJ8_newLength_cabcc := by decide +kernel
theorem ml_J8_newLength_cabcc_194_1 : Cond.static Lib.Math.max.name ∈ wsJ8_newLength_cabcc := by decide +kernel
theorem ml_J8_newLength_cabcc_194_2 : Cond.initialized "java/lang/Math" ∈ wsJ8_newLength_cabcc := by decide +kernel
theorem ml_J8_newLength_cabcc_194_3 : Cond.code Lib.Math.max.name Lib.Math.max.code 2 (some .int) ∈ wsJ8_newLength_cabcc := by decide +kernel
set_option maxRecDepth 100000 in
set_option maxHeartbeats 4000000 in
theorem c_J8_newLength_cabcc (l : Launch) (D : va_G) (cI cO cL : ClassId) (H0 : Heap) (o q : Int) (h : (0 ≤ o ∧ o ≤ 60) ∧ 0 ≤ q ∧ q ≤ 60) : zPM l yJ8_newLength_cabcc wsJ8_newLength_cabcc ({ frames := 1, cells := 0, slots := 0, locals := 14 }) (zKK D cI cO cL) [.int (zI o), .int (zI 1), .int (zI q)] H0 (fun r => r = .int (zI (o + max 1 q))) := by
  refine Met.ofW (cc := cJ8_newLength_cabcc) (maxL := 4) (ret := (some .int)) (by decide) rfl ?_
  intro p e s m args below meth c s₁ B hml hv
  obtain ⟨rfl, hH, hK⟩ := hv
  subst hH
  have hx := B.exec
  have hb := B.bytes
  have hr := B.returns
  have hts := atoms_spec (ws := wsJ8_newLength_cabcc) B.pre
  have hown : s.vm.findClass RJ8 = some m.cls := findClass_of_methodNamed B.named
  have hlocks := B.notSynchronized
  have hl := lv_entry ([.int (zI o), .int (zI 1), .int (zI q)]) (n := 4) (Nat.le_of_ble_eq_true rfl)
  rw [lg_entry_eq]
  generalize (lg_sl ([.int (zI o), .int (zI 1), .int (zI q)]) ++ List.replicate (4 - (lg_sl ([.int (zI o), .int (zI 1), .int (zI q)])).length) Slot.unset).toArray = ls at hl ⊢
  have hl : lv_has ls 4 [(0, .int (zI o)), (1, .int (zI 1)), (2, .int (zI q))] := hl
  refine lv_iload_n hx hb dJ8_newLength_cabcc_0 rfl (lv_at hl 0 rfl) ?_
  refine lv_iload_n hx hb dJ8_newLength_cabcc_1 rfl (lv_at hl 1 rfl) ?_
  refine lv_iload_n hx hb dJ8_newLength_cabcc_2 rfl (lv_at hl 2 rfl) ?_
  refine z_mmax hx hb (hml.trans hl.1.symm) hts hown ml_J8_newLength_cabcc_194_0 ml_J8_newLength_cabcc_194_1 ml_J8_newLength_cabcc_194_2 ml_J8_newLength_cabcc_194_3 (Nat.le_of_ble_eq_true rfl) (Nat.le_of_ble_eq_true rfl) ⟨Nat.zero_le _, Nat.zero_le _⟩ (by omega) dJ8_newLength_cabcc_3 ?_
  refine z_top (b := max 1 q) (by rfl) ?_
  refine z_iadd hx hb dJ8_newLength_cabcc_6 ?_
  refine lv_istore_n (lv' := [(3, .int (zI (o + max 1 q))), (0, .int (zI o)), (1, .int (zI 1)), (2, .int (zI q))]) hx hb dJ8_newLength_cabcc_7 rfl hl (by decide) rfl (fun ls hl => ?_)
  refine z_iconst hx hb dJ8_newLength_cabcc_8 ?_
  refine lv_iload_n hx hb dJ8_newLength_cabcc_9 rfl (lv_at hl 0 rfl) ?_
  refine z_icmp_ge (tgt := 21) hx hb dJ8_newLength_cabcc_10 (by decide) (by omega) (fun c1 => ?_) (fun c1 => ?_)
  · exfalso; omega
  refine lv_iload_n hx hb dJ8_newLength_cabcc_13 rfl (lv_at hl 0 rfl) ?_
  refine lv_ldc hx hb hown (hts _ lk_J8_newLength_cabcc_a) dJ8_newLength_cabcc_14 ?_
  refine z_tov (w := .int (zI 2147483639)) rfl ?_
  refine z_icmp_gt (tgt := 21) hx hb dJ8_newLength_cabcc_16 (by decide) (by omega) (fun c1 => ?_) (fun c1 => ?_)
  · exfalso; omega
  refine lv_iload_n hx hb dJ8_newLength_cabcc_19 rfl (lv_at hl 0 rfl) ?_
  exact W.iret hx hb hr (z_end (post := fun r => r = .int (zI (o + max 1 q))) rfl) (fun _ h => nomatch h) dJ8_newLength_cabcc_20

theorem lk_Jx4a65c_grow_92f84_9 : Cond.fieldLink RJx4a65c 9 "java/util/ArrayList" "elementData" "[Ljava/lang/Object;" ∈ wsJx4a65c_grow_92f84 := by decide +kernel
theorem lk_Jx4a65c_grow_92f84_39 : Cond.fieldLink RJx4a65c 39 "java/util/ArrayList" "DEFAULTCAPACITY_EMPTY_ELEMENTDATA" "[Ljava/lang/Object;" ∈ wsJx4a65c_grow_92f84 := by decide +kernel
theorem lk_Jx4a65c_grow_92f84_7 : Cond.classLink RJx4a65c 7 "java/lang/Object" ∈ wsJx4a65c_grow_92f84 := by decide +kernel
theorem in_Jx4a65c_grow_92f84 : ∀ w ∈ wsJx4a65c0, w ∈ wsJx4a65c_grow_92f84 := by decide +kernel
theorem ml_Jx4a65c_grow_92f84_79_0 : Cond.methodLink RJx4a65c 79 Lib.Math.max.name ∈ wsJx4a65c_grow_92f84 := by decide +kernel
theorem ml_Jx4a65c_grow_92f84_79_1 : Cond.static Lib.Math.max.name ∈ wsJx4a65c_grow_92f84 := by decide +kernel
theorem ml_Jx4a65c_grow_92f84_79_2 : Cond.initialized "java/lang/Math" ∈ wsJx4a65c_grow_92f84 := by decide +kernel
theorem ml_Jx4a65c_grow_92f84_79_3 : Cond.code Lib.Math.max.name Lib.Math.max.code 2 (some .int) ∈ wsJx4a65c_grow_92f84 := by decide +kernel
set_option maxRecDepth 100000 in
set_option maxHeartbeats 4000000 in
theorem c_Jx4a65c_grow_92f84 (l : Launch) (D : va_G) (cI cO cL : ClassId) (A : Nat → Prop) (eE mi : Nat) (sa : Nat → Nat) (H0 : Heap) (b mc ea cap : Nat) (f : Nat → Option Nat) (hO : va_at D vwCl (b, .inr (0, [.int (zI mc), .ref ea, .int (zI (cap : Int))])) H0) (hE : (cap = 0 ∧ ea = eE) ∨ (0 < cap ∧ va_at D vwCl (ea, zQ cO cap f) H0)) (hcap : cap ≤ 39) (hf : ∀ j, cap ≤ j → f j = none) (hel : ∀ j y, f j = some y → xIsE D H0 y) (hne : b ≠ ea) (hFA : ∀ q : Nat, (q = b ∨ (0 < cap ∧ q = ea) ∨ H0.size ≤ q) → A q) : zGM l yJx4a65c_grow_92f84 wsJx4a65c_grow_92f84 ({ frames := 3, cells := 1, slots := 60, locals := 120 }) D cI cO cL A eE mi sa [.ref b, .int (zI ((cap : Int) + 1))] H0 (fun r H1 => ∃ cap2 : Nat, r = some (.ref H0.size) ∧ va_at D vwCl (b, .inr (0, [.int (zI mc), .ref H0.size, .int (zI (cap : Int))])) H1 ∧ va_at D vwCl (H0.size, zQ cO cap2 f) H1 ∧ (cap + 1 ≤ cap2 ∧ cap2 ≤ 60) ∧ H0.size < H1.size ∧ ∀ q : Nat, q < H0.size → q ≠ b → H1[q]? = H0[q]?) (fun q => q = b ∨ (0 < cap ∧ q = ea) ∨ H0.size ≤ q) := by
  refine Met.ofW (cc := cJx4a65c_grow_92f84) (maxL := 4) (ret := (some (.array (.object "java/lang/Object")))) (by decide) rfl ?_
  intro p e s m args below meth c s₁ B hml hv
  obtain ⟨rfl, hH, hG⟩ := hv
  subst hH
  have hK := hG.k
  have hx := B.exec
  have hb := B.bytes
  have hr := B.returns
  have hts := atoms_spec (ws := wsJx4a65c_grow_92f84) B.pre
  have hown : s.vm.findClass RJx4a65c = some m.cls := findClass_of_methodNamed B.named
  have hlocks := B.notSynchronized
  have hl := lv_entry ([.ref b, .int (zI ((cap : Int) + 1))]) (n := 4) (Nat.le_of_ble_eq_true rfl)
  rw [lg_entry_eq]
  generalize (lg_sl ([.ref b, .int (zI ((cap : Int) + 1))]) ++ List.replicate (4 - (lg_sl ([.ref b, .int (zI ((cap : Int) + 1))])).length) Slot.unset).toArray = ls at hl ⊢
  have hl : lv_has ls 4 [(0, .ref b), (1, .int (zI ((cap : Int) + 1)))] := hl
  have hbl := z_lt hO
  refine lv_aload_n hx hb dJx4a65c_grow_92f84_0 rfl (lv_at hl 0 rfl) ?_
  refine z_get hx hb hts in_Jx4a65c_grow_92f84 hown hK hO rfl 1 (by decide) lk_Jx4a65c_grow_92f84_9 rfl rfl dJx4a65c_grow_92f84_1 ?_
  rcases hE with ⟨c0, c1⟩ | ⟨c0, hE⟩
  · subst c0 c1
    refine z_alenE (cap := 0) (f := f) hx hb hK (Or.inl ⟨rfl, rfl⟩) hG.2.2.1 dJx4a65c_grow_92f84_4 ?_
    refine z_top (b := 0) rfl ?_
    refine lv_istore_n (lv' := [(2, .int (zI 0)), (0, .ref b), (1, .int (zI (((0 : Nat) : Int) + 1)))]) hx hb dJx4a65c_grow_92f84_5 rfl hl (by decide) rfl (fun ls hl => ?_)
    refine lv_iload_n hx hb dJx4a65c_grow_92f84_6 rfl (lv_at hl 0 rfl) ?_
    refine z_if_gt (tgt := 20) hx hb dJx4a65c_grow_92f84_7 (by decide) (by omega) (fun c1 => ?_) (fun c1 => ?_)
    · exfalso; omega
    refine lv_aload_n hx hb dJx4a65c_grow_92f84_10 rfl (lv_at hl 1 rfl) ?_
    refine z_get hx hb hts in_Jx4a65c_grow_92f84 hown hK hO rfl 1 (by decide) lk_Jx4a65c_grow_92f84_9 rfl rfl dJx4a65c_grow_92f84_11 ?_
    refine va_gets hx hb hG.2.1 va_S.rf hown (hts _ lk_Jx4a65c_grow_92f84_39) (fun x h => h) dJx4a65c_grow_92f84_14 ?_
    refine lv_acmp_eq (rx := some ea) (ry := some ea) (tgt := 45) hx hb dJx4a65c_grow_92f84_17 (by decide) (fun c => ?_) (fun c => absurd rfl c)
    refine lv_aload_n hx hb dJx4a65c_grow_92f84_45 rfl (lv_at hl 1 rfl) ?_
    refine z_bipush hx hb dJx4a65c_grow_92f84_46 (by decide +kernel) ?_
    refine lv_iload_n hx hb dJx4a65c_grow_92f84_48 rfl (lv_at hl 2 rfl) ?_
    refine z_mmax hx hb (hml.trans hl.1.symm) hts hown ml_Jx4a65c_grow_92f84_79_0 ml_Jx4a65c_grow_92f84_79_1 ml_Jx4a65c_grow_92f84_79_2 ml_Jx4a65c_grow_92f84_79_3 (Nat.le_of_ble_eq_true rfl) (Nat.le_of_ble_eq_true rfl) ⟨Nat.zero_le _, Nat.zero_le _⟩ (by omega) dJx4a65c_grow_92f84_49 ?_
    refine z_top (b := ((10 : Nat) : Int)) (by rfl) ?_
    refine z_newq hx hb hown (hts _ lk_Jx4a65c_grow_92f84_7) hG.2.2.2.2.2.2.2.1 hK (F := fun q => q = b ∨ (0 < 0 ∧ q = ea) ∨ s.heap.size ≤ q) va_S.rf (by omega) (Nat.le_of_ble_eq_true rfl) (Nat.le_of_ble_eq_true rfl) dJx4a65c_grow_92f84_52 (fun H1 hq1 hz1 ho1 hS1 => ?_)
    refine lv_dup_x1 hx hb dJx4a65c_grow_92f84_55 rfl rfl ?_
    refine z_put hx hb hts in_Jx4a65c_grow_92f84 tyJx4a65c tyJx4a65c_ok nmJx4a65c hown hK (hO.kept (ho1 b hbl)) (Or.inl rfl) hS1 rfl 1 (by decide) lk_Jx4a65c_grow_92f84_9 rfl rfl rfl rfl (Nat.le_of_ble_eq_true rfl) dJx4a65c_grow_92f84_56 (fun H2 locs2 ha2 hz2 ho2 hS2 => ?_)
    exact W.widen (k := 1) (n := 60) (Nat.le_of_ble_eq_true rfl) (Nat.le_of_ble_eq_true rfl) (W.aret hx hb hr (Or.inr ⟨_, rfl⟩) (Or.inr ⟨_, rfl⟩) (z_endP (P := fun r H1 => ∃ cap2 : Nat, r = some (.ref s.heap.size) ∧ va_at D vwCl (b, .inr (0, [.int (zI mc), .ref s.heap.size, .int (zI ((0 : Nat) : Int))])) H1 ∧ va_at D vwCl (s.heap.size, zQ cO cap2 f) H1 ∧ (0 + 1 ≤ cap2 ∧ cap2 ≤ 60) ∧ s.heap.size < H1.size ∧ ∀ q : Nat, q < s.heap.size → q ≠ b → H1[q]? = s.heap[q]?) ⟨10, rfl, ha2, by rw [show f = (fun _ => none) from funext fun j => hf j (Nat.zero_le _)]; exact hq1.kept (ho2 _ (by omega)), by omega, by omega, fun q h1 h2 => (ho2 q h2).trans (ho1 q h1)⟩) hS2.2.2 dJx4a65c_grow_92f84_59)
  · refine z_alen hx hb hK 1 hE rfl dJx4a65c_grow_92f84_4 ?_
    refine z_top (b := (cap : Int)) rfl ?_
    refine lv_istore_n (lv' := [(2, .int (zI (cap : Int))), (0, .ref b), (1, .int (zI ((cap : Int) + 1)))]) hx hb dJx4a65c_grow_92f84_5 rfl hl (by decide) rfl (fun ls hl => ?_)
    refine lv_iload_n hx hb dJx4a65c_grow_92f84_6 rfl (lv_at hl 0 rfl) ?_
    refine z_if_gt (tgt := 20) hx hb dJx4a65c_grow_92f84_7 (by decide) (by omega) (fun c1 => ?_) (fun c1 => ?_)
    · refine lv_iload_n hx hb dJx4a65c_grow_92f84_20 rfl (lv_at hl 0 rfl) ?_
      refine lv_iload_n hx hb dJx4a65c_grow_92f84_21 rfl (lv_at hl 2 rfl) ?_
      refine lv_iload_n hx hb dJx4a65c_grow_92f84_22 rfl (lv_at hl 0 rfl) ?_
      refine z_isub hx hb dJx4a65c_grow_92f84_23 ?_
      refine z_top (b := 1) (by omega) ?_
      refine lv_iload_n hx hb dJx4a65c_grow_92f84_24 rfl (lv_at hl 0 rfl) ?_
      refine z_iconst hx hb dJx4a65c_grow_92f84_25 ?_
      refine z_ishr hx hb dJx4a65c_grow_92f84_26 (by omega) ?_
      refine z_top (b := (cap : Int) / 2) rfl ?_
      refine z_cs (As := [.int (zI (cap : Int)), .int (zI 1), .int (zI ((cap : Int) / 2))]) (rest := []) ⟨hx, hb, hml, hown, hts⟩ (c_J8_newLength_cabcc l D cI cO cL s.heap cap ((cap : Int) / 2) (by omega)) (va_cwS 3 hts gJx4a65c_grow_92f84_J8_newLength_cabcc rfl rfl rfl (by decide +kernel) ⟨(Nat.le_of_ble_eq_true rfl), (Nat.le_of_ble_eq_true rfl)⟩) (zKK_mv D cI cO cL) (fun U _ hv => va_K.moved hv hK) rfl hl.1 rfl (Nat.le_of_ble_eq_true rfl) dJx4a65c_grow_92f84_27 ⟨Nat.zero_le _, Nat.zero_le _⟩ (fun r hr1 => ?_)
      rw [hr1]
      refine z_top (b := ((cap + max 1 (cap / 2) : Nat) : Int)) (by omega) ?_
      refine lv_istore_n (lv' := [(3, .int (zI ((cap + max 1 (cap / 2) : Nat) : Int))), (2, .int (zI (cap : Int))), (0, .ref b), (1, .int (zI ((cap : Int) + 1)))]) hx hb dJx4a65c_grow_92f84_30 rfl hl (by decide) rfl (fun ls hl => ?_)
      refine lv_aload_n hx hb dJx4a65c_grow_92f84_31 rfl (lv_at hl 2 rfl) ?_
      refine lv_aload_n hx hb dJx4a65c_grow_92f84_32 rfl (lv_at hl 2 rfl) ?_
      refine z_get hx hb hts in_Jx4a65c_grow_92f84 hown hK hO rfl 1 (by decide) lk_Jx4a65c_grow_92f84_9 rfl rfl dJx4a65c_grow_92f84_33 ?_
      refine lv_iload_n hx hb dJx4a65c_grow_92f84_36 rfl (lv_at hl 0 rfl) ?_
      refine z_gS (As := [.ref ea, .int (zI ((cap + max 1 (cap / 2) : Nat) : Int))]) (rest := [.ref b]) ⟨hx, hb, hml, hown, hts⟩ (c_J7_copyOf_1904c l D cI cO cL A eE mi sa s.heap ea cap (cap + max 1 (cap / 2)) f hE (by omega) hf hel) (va_cwS 2 hts gJx4a65c_grow_92f84_J7_copyOf_1904c rfl rfl rfl (by decide +kernel) ⟨(Nat.le_of_ble_eq_true rfl), (Nat.le_of_ble_eq_true rfl)⟩) hG va_S.rf rfl hl.1 rfl (Nat.le_of_ble_eq_true rfl) dJx4a65c_grow_92f84_37 ⟨(Nat.le_of_ble_eq_true rfl), (Nat.le_of_ble_eq_true rfl)⟩ (fun r H1 L hp hL => ?_)
      obtain ⟨e1, p2, p3, p4⟩ := hp
      rw [e1]
      have hS1 : va_S (fun q => q = b ∨ (0 < cap ∧ q = ea) ∨ s.heap.size ≤ q) s.heap H1 ([] ++ L) := ⟨by omega, fun q h1 _ => p4 q h1, fun q hq => by
        rcases hL q (by simpa using hq) with z | z
        · exact Or.inr (Or.inl ⟨c0, z⟩)
        · exact Or.inr (Or.inr z)⟩
      refine lv_dup_x1 hx hb dJx4a65c_grow_92f84_40 rfl rfl ?_
      refine z_put hx hb hts in_Jx4a65c_grow_92f84 tyJx4a65c tyJx4a65c_ok nmJx4a65c hown hK (hO.kept (p4 b hbl)) (Or.inl rfl) hS1 rfl 1 (by decide) lk_Jx4a65c_grow_92f84_9 rfl rfl rfl rfl (Nat.le_of_ble_eq_true rfl) dJx4a65c_grow_92f84_41 (fun H2 locs2 ha2 hz2 ho2 hS2 => ?_)
      exact W.aret hx hb hr (Or.inr ⟨_, rfl⟩) (Or.inr ⟨_, rfl⟩) (z_endP (P := fun r H1 => ∃ cap2 : Nat, r = some (.ref s.heap.size) ∧ va_at D vwCl (b, .inr (0, [.int (zI mc), .ref s.heap.size, .int (zI (cap : Int))])) H1 ∧ va_at D vwCl (s.heap.size, zQ cO cap2 f) H1 ∧ (cap + 1 ≤ cap2 ∧ cap2 ≤ 60) ∧ s.heap.size < H1.size ∧ ∀ q : Nat, q < s.heap.size → q ≠ b → H1[q]? = s.heap[q]?) ⟨_, rfl, ha2, p2.kept (ho2 _ (by omega)), by omega, by omega, fun q h1 h2 => (ho2 q h2).trans (p4 q h1)⟩) hS2.2.2 dJx4a65c_grow_92f84_44
    · exfalso; omega

theorem lk_Jx4a65c_grow_d5877_48 : Cond.fieldLink RJx4a65c 48 "java/util/ArrayList" "size" "I" ∈ wsJx4a65c_grow_d5877 := by decide +kernel
theorem in_Jx4a65c_grow_d5877 : ∀ w ∈ wsJx4a65c0, w ∈ wsJx4a65c_grow_d5877 := by decide +kernel
set_option maxRecDepth 100000 in
set_option maxHeartbeats 4000000 in
theorem c_Jx4a65c_grow_d5877 (l : Launch) (D : va_G) (cI cO cL : ClassId) (A : Nat → Prop) (eE mi : Nat) (sa : Nat → Nat) (H0 : Heap) (b mc ea cap : Nat) (f : Nat → Option Nat) (hO : va_at D vwCl (b, .inr (0, [.int (zI mc), .ref ea, .int (zI (cap : Int))])) H0) (hE : (cap = 0 ∧ ea = eE) ∨ (0 < cap ∧ va_at D vwCl (ea, zQ cO cap f) H0)) (hcap : cap ≤ 39) (hf : ∀ j, cap ≤ j → f j = none) (hel : ∀ j y, f j = some y → xIsE D H0 y) (hne : b ≠ ea) (hFA : ∀ q : Nat, (q = b ∨ (0 < cap ∧ q = ea) ∨ H0.size ≤ q) → A q) : zGM l yJx4a65c_grow_d5877 wsJx4a65c_grow_d5877 ({ frames := 4, cells := 1, slots := 60, locals := 145 }) D cI cO cL A eE mi sa [.ref b] H0 (fun r H1 => ∃ cap2 : Nat, r = some (.ref H0.size) ∧ va_at D vwCl (b, .inr (0, [.int (zI mc), .ref H0.size, .int (zI (cap : Int))])) H1 ∧ va_at D vwCl (H0.size, zQ cO cap2 f) H1 ∧ (cap + 1 ≤ cap2 ∧ cap2 ≤ 60) ∧ H0.size < H1.size ∧ ∀ q : Nat, q < H0.size → q ≠ b → H1[q]? = H0[q]?) (fun q => q = b ∨ (0 < cap ∧ q = ea) ∨ H0.size ≤ q) := by
  refine Met.ofW (cc := cJx4a65c_grow_d5877) (maxL := 1) (ret := (some (.array (.object "java/lang/Object")))) (by decide) rfl ?_
  intro p e s m args below meth c s₁ B hml hv
  obtain ⟨rfl, hH, hG⟩ := hv
  subst hH
  have hK := hG.k
  have hx := B.exec
  have hb := B.bytes
  have hr := B.returns
  have hts := atoms_spec (ws := wsJx4a65c_grow_d5877) B.pre
  have hown : s.vm.findClass RJx4a65c = some m.cls := findClass_of_methodNamed B.named
  have hlocks := B.notSynchronized
  have hl := lv_entry ([.ref b]) (n := 1) (Nat.le_of_ble_eq_true rfl)
  rw [lg_entry_eq]
  generalize (lg_sl ([.ref b]) ++ List.replicate (1 - (lg_sl ([.ref b])).length) Slot.unset).toArray = ls at hl ⊢
  have hl : lv_has ls 1 [(0, .ref b)] := hl
  refine lv_aload_n hx hb dJx4a65c_grow_d5877_0 rfl (lv_at hl 0 rfl) ?_
  refine lv_aload_n hx hb dJx4a65c_grow_d5877_1 rfl (lv_at hl 0 rfl) ?_
  refine z_get hx hb hts in_Jx4a65c_grow_d5877 hown hK hO rfl 2 (by decide) lk_Jx4a65c_grow_d5877_48 rfl rfl dJx4a65c_grow_d5877_2 ?_
  refine z_iconst hx hb dJx4a65c_grow_d5877_5 ?_
  refine z_iadd hx hb dJx4a65c_grow_d5877_6 ?_
  refine z_gV (As := [.int (zI ((cap : Int) + 1))]) (rest := []) ⟨hx, hb, hml, hown, hts⟩ (c_Jx4a65c_grow_92f84 l D cI cO cL A eE mi sa s.heap b mc ea cap f hO hE hcap hf hel hne hFA) (cwV 1 hts gJx4a65c_grow_d5877_Jx4a65c_grow_92f84 rfl rfl rfl (by decide +kernel) ⟨(Nat.le_of_ble_eq_true rfl), (Nat.le_of_ble_eq_true rfl)⟩) hG va_S.rf (z_recv hK hO rfl) rfl hl.1 rfl (Nat.le_of_ble_eq_true rfl) dJx4a65c_grow_d5877_7 ⟨(Nat.le_of_ble_eq_true rfl), (Nat.le_of_ble_eq_true rfl)⟩ (fun r H1 L hp hL => ?_)
  obtain ⟨cap2, e1, p2⟩ := hp
  rw [e1]
  exact W.aret hx hb hr (Or.inr ⟨_, rfl⟩) (Or.inr ⟨_, rfl⟩) (z_endP (P := fun r H1 => ∃ cap2 : Nat, r = some (.ref s.heap.size) ∧ va_at D vwCl (b, .inr (0, [.int (zI mc), .ref s.heap.size, .int (zI (cap : Int))])) H1 ∧ va_at D vwCl (s.heap.size, zQ cO cap2 f) H1 ∧ (cap + 1 ≤ cap2 ∧ cap2 ≤ 60) ∧ s.heap.size < H1.size ∧ ∀ q : Nat, q < s.heap.size → q ≠ b → H1[q]? = s.heap[q]?) ⟨cap2, rfl, p2⟩) (fun q hq => hL q (by simpa using hq)) dJx4a65c_grow_d5877_10

theorem lk_Jx4a65c_add_72be8_48 : Cond.fieldLink RJx4a65c 48 "java/util/ArrayList" "size" "I" ∈ wsJx4a65c_add_72be8 := by decide +kernel
theorem in_Jx4a65c_add_72be8 : ∀ w ∈ wsJx4a65c0, w ∈ wsJx4a65c_add_72be8 := by decide +kernel
set_option maxRecDepth 100000 in
set_option maxHeartbeats 4000000 in
theorem c_Jx4a65c_add_72be8 (l : Launch) (D : va_G) (cI cO cL : ClassId) (A : Nat → Prop) (eE mi : Nat) (sa : Nat → Nat) (H0 : Heap) (b mc ea cap v : Nat) (n : Int) (f : Nat → Option Nat) (hO : va_at D vwCl (b, .inr (0, [.int (zI mc), .ref ea, .int (zI n)])) H0) (hE : (cap = 0 ∧ ea = eE) ∨ (0 < cap ∧ va_at D vwCl (ea, zQ cO cap f) H0)) (hcap : (0 ≤ n ∧ n ≤ 39) ∧ n ≤ cap ∧ cap ≤ 60) (hf : ∀ j : Nat, n ≤ j → f j = none) (hel : ∀ j y, f j = some y → xIsE D H0 y) (hv : xIsE D H0 v) (hne : b ≠ ea ∧ v ≠ b) (hFA : ∀ q : Nat, (q = b ∨ (0 < cap ∧ q = ea) ∨ H0.size ≤ q) → A q) : zGM l yJx4a65c_add_72be8 wsJx4a65c_add_72be8 ({ frames := 5, cells := 1, slots := 60, locals := 170 }) D cI cO cL A eE mi sa [.ref b, .ref v, .ref ea, .int (zI n)] H0 (fun r H1 => ∃ ea2 cap2 : Nat, r = none ∧ va_at D vwCl (b, .inr (0, [.int (zI mc), .ref ea2, .int (zI (n + 1))])) H1 ∧ va_at D vwCl (ea2, zQ cO cap2 (va_up f n.toNat (some v))) H1 ∧ (n < cap2 ∧ cap2 ≤ 60) ∧ (H0.size ≤ ea2 ∨ (ea2 = ea ∧ 0 < cap)) ∧ H0.size ≤ H1.size ∧ ∀ q : Nat, q < H0.size → q ≠ b → ¬ (0 < cap ∧ q = ea) → H1[q]? = H0[q]?) (fun q => q = b ∨ (0 < cap ∧ q = ea) ∨ H0.size ≤ q) := by
  refine Met.ofW (cc := cJx4a65c_add_72be8) (maxL := 4) (ret := none) (by decide) rfl ?_
  intro p e s m args below meth c s₁ B hml hv
  obtain ⟨rfl, hH, hG⟩ := hv
  subst hH
  have hK := hG.k
  have hx := B.exec
  have hb := B.bytes
  have hr := B.returns
  have hts := atoms_spec (ws := wsJx4a65c_add_72be8) B.pre
  have hown : s.vm.findClass RJx4a65c = some m.cls := findClass_of_methodNamed B.named
  have hlocks := B.notSynchronized
  have hl := lv_entry ([.ref b, .ref v, .ref ea, .int (zI n)]) (n := 4) (Nat.le_of_ble_eq_true rfl)
  rw [lg_entry_eq]
  generalize (lg_sl ([.ref b, .ref v, .ref ea, .int (zI n)]) ++ List.replicate (4 - (lg_sl ([.ref b, .ref v, .ref ea, .int (zI n)])).length) Slot.unset).toArray = ls at hl ⊢
  have hl : lv_has ls 4 [(0, .ref b), (1, .ref v), (2, .ref ea), (3, .int (zI n))] := hl
  have hbl := z_lt hO
  refine lv_iload_n hx hb dJx4a65c_add_72be8_0 rfl (lv_at hl 3 rfl) ?_
  refine lv_aload_n hx hb dJx4a65c_add_72be8_1 rfl (lv_at hl 2 rfl) ?_
  refine z_alenE hx hb hK hE hG.2.2.1 dJx4a65c_add_72be8_2 ?_
  refine z_icmp_ne (tgt := 11) hx hb dJx4a65c_add_72be8_3 (by decide) (by omega) (fun c1 => ?_) (fun c1 => ?_)
  · have hE1 : 0 < cap ∧ va_at D vwCl (ea, zQ cO cap f) s.heap := by
      rcases hE with z | z
      · omega
      · exact z
    refine lv_aload_n hx hb dJx4a65c_add_72be8_11 rfl (lv_at hl 2 rfl) ?_
    refine lv_iload_n hx hb dJx4a65c_add_72be8_12 rfl (lv_at hl 3 rfl) ?_
    refine lv_aload_n hx hb dJx4a65c_add_72be8_13 rfl (lv_at hl 1 rfl) ?_
    refine z_astq hx hb hK (va_S.rf (A := fun q => q = b ∨ (0 < cap ∧ q = ea) ∨ s.heap.size ≤ q) (H0 := s.heap)) hE1.2 (Or.inr (Or.inl ⟨hE1.1, rfl⟩)) (x_any hG hv) (by omega) dJx4a65c_add_72be8_14 (fun H3 locs3 ha3 hz3 ho3 hS3 => ?_)
    refine lv_aload_n hx hb dJx4a65c_add_72be8_15 rfl (lv_at hl 0 rfl) ?_
    refine lv_iload_n hx hb dJx4a65c_add_72be8_16 rfl (lv_at hl 3 rfl) ?_
    refine z_iconst hx hb dJx4a65c_add_72be8_17 ?_
    refine z_iadd hx hb dJx4a65c_add_72be8_18 ?_
    refine z_put hx hb hts in_Jx4a65c_add_72be8 tyJx4a65c tyJx4a65c_ok nmJx4a65c hown hK ((hO).kept (ho3 b hne.1)) (Or.inl rfl) hS3 rfl 2 (by decide) lk_Jx4a65c_add_72be8_48 rfl rfl rfl rfl (Nat.le_of_ble_eq_true rfl) dJx4a65c_add_72be8_19 (fun H4 locs4 ha4 hz4 ho4 hS4 => ?_)
    exact W.widen (k := 1) (n := 60) (Nat.le_of_ble_eq_true rfl) (Nat.le_of_ble_eq_true rfl) (W.vret hx hb hr (z_endP (P := fun r H1 => ∃ ea2 cap2 : Nat, r = none ∧ va_at D vwCl (b, .inr (0, [.int (zI mc), .ref ea2, .int (zI (n + 1))])) H1 ∧ va_at D vwCl (ea2, zQ cO cap2 (va_up f n.toNat (some v))) H1 ∧ (n < cap2 ∧ cap2 ≤ 60) ∧ (s.heap.size ≤ ea2 ∨ (ea2 = ea ∧ 0 < cap)) ∧ s.heap.size ≤ H1.size ∧ ∀ q : Nat, q < s.heap.size → q ≠ b → ¬ (0 < cap ∧ q = ea) → H1[q]? = s.heap[q]?) ⟨ea, cap, rfl, ha4, ha3.kept (ho4 _ hne.1.symm), by omega, Or.inr ⟨rfl, hE1.1⟩, by omega, fun q h1 h2 h3 => (ho4 q h2).trans ((ho3 q (fun z => h3 ⟨hE1.1, z⟩)).trans (rfl))⟩) hS4.2.2 dJx4a65c_add_72be8_22)
  · refine lv_aload_n hx hb dJx4a65c_add_72be8_6 rfl (lv_at hl 0 rfl) ?_
    refine z_gV (As := []) (rest := []) ⟨hx, hb, hml, hown, hts⟩ (c_Jx4a65c_grow_d5877 l D cI cO cL A eE mi sa s.heap b mc ea cap f (by rw [← c1]; exact hO) hE (by omega) (fun j hj => hf j (by omega)) hel hne.1 hFA) (cwV 0 hts gJx4a65c_add_72be8_Jx4a65c_grow_d5877 rfl rfl rfl (by decide +kernel) ⟨(Nat.le_of_ble_eq_true rfl), (Nat.le_of_ble_eq_true rfl)⟩) hG va_S.rf (z_recv hK hO rfl) rfl hl.1 rfl (Nat.le_of_ble_eq_true rfl) dJx4a65c_add_72be8_7 ⟨(Nat.le_of_ble_eq_true rfl), (Nat.le_of_ble_eq_true rfl)⟩ (fun r H1 L hp hL => ?_)
    obtain ⟨cap2, e1, p2, p3, p4, p5, p6⟩ := hp
    rw [e1]
    refine lv_astore_n (lv' := [(2, .ref s.heap.size), (0, .ref b), (1, .ref v), (3, .int (zI n))]) hx hb dJx4a65c_add_72be8_10 rfl hl (by decide) rfl (fun ls hl => ?_)
    rw [← c1] at p2
    have hS1 : va_S (fun q => q = b ∨ (0 < cap ∧ q = ea) ∨ s.heap.size ≤ q) s.heap H1 ([] ++ L) := ⟨by omega, fun q h1 h2 => p6 q h1 (fun z => h2 (Or.inl z)), fun q hq => hL q (by simpa using hq)⟩
    have hv1 : xIsE D H1 v := by
      obtain ⟨ci, fs, h1, h2⟩ := hv
      exact ⟨ci, fs, h1, h2.kept (p6 v (z_lt h2) hne.2)⟩
    have hb2 : b ≠ s.heap.size := by omega
    refine lv_aload_n hx hb dJx4a65c_add_72be8_11 rfl (lv_at hl 0 rfl) ?_
    refine lv_iload_n hx hb dJx4a65c_add_72be8_12 rfl (lv_at hl 3 rfl) ?_
    refine lv_aload_n hx hb dJx4a65c_add_72be8_13 rfl (lv_at hl 2 rfl) ?_
    refine z_astq hx hb hK hS1 p3 (Or.inr (Or.inr (Nat.le_refl _))) (x_any hG hv1) (by omega) dJx4a65c_add_72be8_14 (fun H3 locs3 ha3 hz3 ho3 hS3 => ?_)
    refine lv_aload_n hx hb dJx4a65c_add_72be8_15 rfl (lv_at hl 1 rfl) ?_
    refine lv_iload_n hx hb dJx4a65c_add_72be8_16 rfl (lv_at hl 3 rfl) ?_
    refine z_iconst hx hb dJx4a65c_add_72be8_17 ?_
    refine z_iadd hx hb dJx4a65c_add_72be8_18 ?_
    refine z_put hx hb hts in_Jx4a65c_add_72be8 tyJx4a65c tyJx4a65c_ok nmJx4a65c hown hK ((p2).kept (ho3 b hb2)) (Or.inl rfl) hS3 rfl 2 (by decide) lk_Jx4a65c_add_72be8_48 rfl rfl rfl rfl (Nat.le_of_ble_eq_true rfl) dJx4a65c_add_72be8_19 (fun H4 locs4 ha4 hz4 ho4 hS4 => ?_)
    exact  (W.vret hx hb hr (z_endP (P := fun r H1 => ∃ ea2 cap2 : Nat, r = none ∧ va_at D vwCl (b, .inr (0, [.int (zI mc), .ref ea2, .int (zI (n + 1))])) H1 ∧ va_at D vwCl (ea2, zQ cO cap2 (va_up f n.toNat (some v))) H1 ∧ (n < cap2 ∧ cap2 ≤ 60) ∧ (s.heap.size ≤ ea2 ∨ (ea2 = ea ∧ 0 < cap)) ∧ s.heap.size ≤ H1.size ∧ ∀ q : Nat, q < s.heap.size → q ≠ b → ¬ (0 < cap ∧ q = ea) → H1[q]? = s.heap[q]?) ⟨s.heap.size, cap2, rfl, ha4, ha3.kept (ho4 _ hb2.symm), by omega, Or.inl (Nat.le_refl _), by omega, fun q h1 h2 h3 => (ho4 q h2).trans ((ho3 q (by omega)).trans (p6 q h1 h2))⟩) hS4.2.2 dJx4a65c_add_72be8_22)

theorem lk_Jx4a65c_add_9ea2d_48 : Cond.fieldLink RJx4a65c 48 "java/util/ArrayList" "size" "I" ∈ wsJx4a65c_add_9ea2d := by decide +kernel
theorem lk_Jx4a65c_add_9ea2d_9 : Cond.fieldLink RJx4a65c 9 "java/util/ArrayList" "elementData" "[Ljava/lang/Object;" ∈ wsJx4a65c_add_9ea2d := by decide +kernel
theorem lk_Jx4a65c_add_9ea2d_63 : Cond.fieldLink RJx4a65c 63 "java/util/ArrayList" "modCount" "I" ∈ wsJx4a65c_add_9ea2d := by decide +kernel
theorem lk_Jx4a65c_add_9ea2d_s : Cond.sameField "java/util/ArrayList" "java/util/AbstractList" "modCount" "I" ∈ wsJx4a65c_add_9ea2d := by decide +kernel
theorem in_Jx4a65c_add_9ea2d : ∀ w ∈ wsJx4a65c0, w ∈ wsJx4a65c_add_9ea2d := by decide +kernel
set_option maxRecDepth 100000 in
set_option maxHeartbeats 4000000 in
theorem c_Jx4a65c_add_9ea2d (l : Launch) (D : va_G) (cI cO cL : ClassId) (A : Nat → Prop) (eE mi : Nat) (sa : Nat → Nat) (H0 : Heap) (b mc ea cap v : Nat) (n : Int) (f : Nat → Option Nat) (hO : va_at D vwCl (b, .inr (0, [.int (zI mc), .ref ea, .int (zI n)])) H0) (hE : (cap = 0 ∧ ea = eE) ∨ (0 < cap ∧ va_at D vwCl (ea, zQ cO cap f) H0)) (hcap : (0 ≤ n ∧ n ≤ 39) ∧ n ≤ cap ∧ cap ≤ 60) (hf : ∀ j : Nat, n ≤ j → f j = none) (hel : ∀ j y, f j = some y → xIsE D H0 y) (hv : xIsE D H0 v) (hne : b ≠ ea ∧ v ≠ b) (hFA : ∀ q : Nat, (q = b ∨ (0 < cap ∧ q = ea) ∨ H0.size ≤ q) → A q) : zGM l yJx4a65c_add_9ea2d wsJx4a65c_add_9ea2d ({ frames := 6, cells := 1, slots := 60, locals := 200 }) D cI cO cL A eE mi sa [.ref b, .ref v] H0 (fun r H1 => ∃ ea2 cap2 : Nat, r = some (.int (zI 1)) ∧ va_at D vwCl (b, .inr (0, [.int (zI (mc + 1 : Nat)), .ref ea2, .int (zI (n + 1))])) H1 ∧ va_at D vwCl (ea2, zQ cO cap2 (va_up f n.toNat (some v))) H1 ∧ (n < cap2 ∧ cap2 ≤ 60) ∧ (H0.size ≤ ea2 ∨ (ea2 = ea ∧ 0 < cap)) ∧ H0.size ≤ H1.size ∧ ∀ q : Nat, q < H0.size → q ≠ b → ¬ (0 < cap ∧ q = ea) → H1[q]? = H0[q]?) (fun q => q = b ∨ (0 < cap ∧ q = ea) ∨ H0.size ≤ q) := by
  refine Met.ofW (cc := cJx4a65c_add_9ea2d) (maxL := 2) (ret := (some .boolean)) (by decide) rfl ?_
  intro p e s m args below meth c s₁ B hml hv
  obtain ⟨rfl, hH, hG⟩ := hv
  subst hH
  have hK := hG.k
  have hx := B.exec
  have hb := B.bytes
  have hr := B.returns
  have hts := atoms_spec (ws := wsJx4a65c_add_9ea2d) B.pre
  have hown : s.vm.findClass RJx4a65c = some m.cls := findClass_of_methodNamed B.named
  have hlocks := B.notSynchronized
  have hl := lv_entry ([.ref b, .ref v]) (n := 2) (Nat.le_of_ble_eq_true rfl)
  rw [lg_entry_eq]
  generalize (lg_sl ([.ref b, .ref v]) ++ List.replicate (2 - (lg_sl ([.ref b, .ref v])).length) Slot.unset).toArray = ls at hl ⊢
  have hl : lv_has ls 2 [(0, .ref b), (1, .ref v)] := hl
  have hbl := z_lt hO
  refine lv_aload_n hx hb dJx4a65c_add_9ea2d_0 rfl (lv_at hl 0 rfl) ?_
  refine lv_dup hx hb dJx4a65c_add_9ea2d_1 rfl ?_
  refine z_getS hx hb hts in_Jx4a65c_add_9ea2d hown hK hO rfl 0 (by decide) lk_Jx4a65c_add_9ea2d_63 lk_Jx4a65c_add_9ea2d_s rfl dJx4a65c_add_9ea2d_2 ?_
  refine z_iconst hx hb dJx4a65c_add_9ea2d_5 ?_
  refine z_iadd hx hb dJx4a65c_add_9ea2d_6 ?_
  refine z_top (b := ((mc + 1 : Nat) : Int)) (by omega) ?_
  refine z_putS (A := fun q => q = b ∨ (0 < cap ∧ q = ea) ∨ s.heap.size ≤ q) hx hb hts in_Jx4a65c_add_9ea2d tyJx4a65c tyJx4a65c_ok nmJx4a65c hown hK hO (Or.inl rfl) va_S.rf rfl 0 (by decide) lk_Jx4a65c_add_9ea2d_63 lk_Jx4a65c_add_9ea2d_s rfl rfl rfl (Nat.le_of_ble_eq_true rfl) dJx4a65c_add_9ea2d_7 (fun H1 locs1 ha1 hz1 ho1 hS1 => ?_)
  refine lv_aload_n hx hb dJx4a65c_add_9ea2d_10 rfl (lv_at hl 0 rfl) ?_
  refine lv_aload_n hx hb dJx4a65c_add_9ea2d_11 rfl (lv_at hl 1 rfl) ?_
  refine lv_aload_n hx hb dJx4a65c_add_9ea2d_12 rfl (lv_at hl 0 rfl) ?_
  refine z_get hx hb hts in_Jx4a65c_add_9ea2d hown hK ha1 rfl 1 (by decide) lk_Jx4a65c_add_9ea2d_9 rfl rfl dJx4a65c_add_9ea2d_13 ?_
  refine lv_aload_n hx hb dJx4a65c_add_9ea2d_16 rfl (lv_at hl 0 rfl) ?_
  refine z_get hx hb hts in_Jx4a65c_add_9ea2d hown hK ha1 rfl 2 (by decide) lk_Jx4a65c_add_9ea2d_48 rfl rfl dJx4a65c_add_9ea2d_17 ?_
  have hE1 : (cap = 0 ∧ ea = eE) ∨ (0 < cap ∧ va_at D vwCl (ea, zQ cO cap f) H1) := by
    rcases hE with z | z
    · exact Or.inl z
    · exact Or.inr ⟨z.1, z.2.kept (ho1 ea (fun q => hne.1 q.symm))⟩
  have hk1 : ∀ y, xIsE D s.heap y → y ≠ b → xIsE D H1 y := fun y h hy => by
    obtain ⟨ci, fs, h1, h2⟩ := h
    exact ⟨ci, fs, h1, h2.kept (ho1 y hy)⟩
  have hnb : ∀ y, xIsE D s.heap y → y ≠ b := fun y h q => by
    obtain ⟨ci, fs, h1, h2⟩ := h
    obtain ⟨c1, k1, k2, k3⟩ := z_recv hK hO (q := (RJx4a65c, TJx4a65c, 3)) rfl
    subst q
    have key : ∀ r : vw_C, vwCl[ci]? = some r → r.1 ≠ RJx4a65c → False := fun r hr hn => by
      obtain ⟨c2, j1, j2, j3⟩ := z_recv hK h2 hr
      have e : c1 = c2 := Option.some.inj (k1.symm.trans j1)
      subst e
      exact hn (z_cname k3 j3)
    rcases h1 with z | z | z
    · subst z; exact key _ rfl (by decide)
    · subst z; exact key _ rfl (by decide)
    · subst z; exact key _ rfl (by decide)
  refine z_gV (As := [.ref v, .ref ea, .int (zI n)]) (rest := []) ⟨hx, hb, hml, hown, hts⟩ (c_Jx4a65c_add_72be8 l D cI cO cL A eE mi sa H1 b (mc + 1) ea cap v n f ha1 hE1 hcap hf (fun j y hy => hk1 y (hel j y hy) (hnb y (hel j y hy))) (hk1 v hv hne.2) hne (fun q hq => hFA q (by rw [hz1] at hq; exact hq))) (cwV 3 hts gJx4a65c_add_9ea2d_Jx4a65c_add_72be8 rfl rfl rfl (by decide +kernel) ⟨(Nat.le_of_ble_eq_true rfl), (Nat.le_of_ble_eq_true rfl)⟩) hG (z_Smono (fun q hq => hFA q hq) hS1) (z_recv hK ha1 rfl) rfl hl.1 rfl (Nat.le_of_ble_eq_true rfl) dJx4a65c_add_9ea2d_20 ⟨(Nat.le_of_ble_eq_true rfl), (Nat.le_of_ble_eq_true rfl)⟩ (fun r H2 L hp hL => ?_)
  obtain ⟨ea2, cap2, e1, p2, p3, p4, p5, p6, p7⟩ := hp
  rw [e1]
  rw [hz1] at p5 p6 p7
  refine z_iconst hx hb dJx4a65c_add_9ea2d_23 ?_
  exact W.zret hx hb hr rfl (z_endP (P := fun r H1 => ∃ ea2 cap2 : Nat, r = some (.int (zI 1)) ∧ va_at D vwCl (b, .inr (0, [.int (zI (mc + 1 : Nat)), .ref ea2, .int (zI (n + 1))])) H1 ∧ va_at D vwCl (ea2, zQ cO cap2 (va_up f n.toNat (some v))) H1 ∧ (n < cap2 ∧ cap2 ≤ 60) ∧ (s.heap.size ≤ ea2 ∨ (ea2 = ea ∧ 0 < cap)) ∧ s.heap.size ≤ H1.size ∧ ∀ q : Nat, q < s.heap.size → q ≠ b → ¬ (0 < cap ∧ q = ea) → H1[q]? = s.heap[q]?) ⟨ea2, cap2, rfl, p2, p3, p4, p5, p6, fun q h1 h2 h3 => (p7 q h1 h2 h3).trans (ho1 q h2)⟩) (fun q hq => by
    rcases List.mem_append.mp hq with h | h
    · exact hS1.2.2 q h
    · have := hL q h
      rw [hz1] at this
      exact this) dJx4a65c_add_9ea2d_24
