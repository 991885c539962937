/-! the law looks for a slot: plain facts -/
/-- a conference's own numbers alone are others -/
theorem Rl.conf {τ τ' σ σ' : zT} {k : Int} (h : Rl τ σ) (hk : 0 ≤ k ∧ k < σ 14 0) (e : ∀ t i, ¬ (i = k ∧ (t = 3 ∨ t = 5)) → τ' t i = τ t i) (f : ∀ t i, t ≠ 0 → (i ≠ k ∨ t < 17 ∨ 20 < t) → t < 30 → t ≠ 10 → σ' t i = σ t i) (h3 : τ' 3 k = pC σ' k) (h5 : τ' 5 k = σ' 20 k) : Rl τ' σ' := by
  have f0 : ∀ t, t ≠ 0 → (t < 17 ∨ 20 < t) → t < 30 → t ≠ 10 → ∀ i, σ' t i = σ t i := fun t h0 h1 h2 h3 i => f t i h0 (by omega) h2 h3
  refine ⟨⟨?_, ?_, ?_, ?_, ?_, ?_⟩, fun i a b => ?_, fun i a b => ?_, fun i a b => ?_⟩
  · rw [e 0 0 (by omega), h.g0, f0 1 (by omega) (by omega) (by omega) (by omega)]
  · rw [e 0 1 (by omega), h.g1, f0 2 (by omega) (by omega) (by omega) (by omega)]
  · rw [e 0 2 (by omega), h.g2, f0 3 (by omega) (by omega) (by omega) (by omega)]
  · rw [e 0 3 (by omega), h.g3, f0 4 (by omega) (by omega) (by omega) (by omega)]
  · rw [e 0 4 (by omega), h.g4, f0 14 (by omega) (by omega) (by omega) (by omega)]
  · rw [e 0 5 (by omega), h.g5, f0 21 (by omega) (by omega) (by omega) (by omega)]
  · rw [f0 5 (by omega) (by omega) (by omega) (by omega)] at b
    rw [e 1 i (by omega), h.s ⟨a, b⟩]
    unfold pS
    rw [f0 6 (by omega) (by omega) (by omega) (by omega), f0 8 (by omega) (by omega) (by omega) (by omega), f0 9 (by omega) (by omega) (by omega) (by omega)]
  · rw [f0 11 (by omega) (by omega) (by omega) (by omega)] at b
    rw [e 2 i (by omega), h.p ⟨a, b⟩, f0 13 (by omega) (by omega) (by omega) (by omega)]
  · rw [f0 14 (by omega) (by omega) (by omega) (by omega)] at b
    by_cases q : i = k
    · subst q
      exact ⟨h3, by rw [e 4 i (by omega), h.w ⟨a, b⟩, f0 16 (by omega) (by omega) (by omega) (by omega)], h5⟩
    · refine ⟨?_, ?_, ?_⟩
      · rw [e 3 i (by omega), h.c ⟨a, b⟩]
        unfold pC
        rw [f0 15 (by omega) (by omega) (by omega) (by omega), f 17 i (by omega) (Or.inl q) (by omega) (by omega), f 18 i (by omega) (Or.inl q) (by omega) (by omega), f 19 i (by omega) (Or.inl q) (by omega) (by omega)]
      · rw [e 4 i (by omega), h.w ⟨a, b⟩, f0 16 (by omega) (by omega) (by omega) (by omega)]
      · rw [e 5 i (by omega), h.t ⟨a, b⟩, f 20 i (by omega) (Or.inl q) (by omega) (by omega)]
/-- while it looks -/
def zLk0 (σ : zT) (k : Int) : zT := zup (zup σ 20 k (-1)) 19 k 1
section LK
variable {τ σ : zT} {k : Int}
theorem zLk0_o {t : Nat} {i : Int} (h : i ≠ k ∨ (t ≠ 19 ∧ t ≠ 20)) : zLk0 σ k t i = σ t i := by
  unfold zLk0
  rcases h with h | h
  · rw [zup_i h, zup_i h]
  · rw [zup_t h.1, zup_t h.2]
theorem zLk0_19 : zLk0 σ k 19 k = 1 := zup_s _ _ _ _
theorem zLk0_20 : zLk0 σ k 20 k = -1 := by unfold zLk0; rw [zup_t (by decide), zup_s]
theorem zInv_lk0 (hI : zInv σ) : zInv (zLk0 σ k) := zInv_ss hI (by omega)
theorem zB_lk0 (hB : zB σ) : zB (zLk0 σ k) := hB
theorem zOk_lk0 (t : Int) : zOk (zLk0 σ k) k t ↔ zOk σ k t := zOk_own (fun j i h0 h => zLk0_o (by rcases h with h | h; exact Or.inl h; exact Or.inr h))
theorem zwhy_lk0 (t : Int) : zan_why (zLk0 σ k) k t = 0 ↔ zOk σ k t := (zwhy_ok k t).trans (zOk_lk0 t)
theorem zFind_is {F i : Int} (hF : (if σ 1 0 < σ 16 k then σ 16 k else σ 1 0) = F) (h1 : F ≤ i ∧ i < F + 1441) (hok : zOk σ k i) (hno : ∀ m, F ≤ m → m < i → ¬ zOk σ k m) : zFind σ k = i := by
  unfold zFind
  rw [hF]
  exact zSrch_is 1441 F i h1.1 (by omega) hok hno
theorem zFind_no {F : Int} (hF : (if σ 1 0 < σ 16 k then σ 16 k else σ 1 0) = F) (hno : ∀ m, F ≤ m → m < F + 1441 → ¬ zOk σ k m) : zFind σ k = -1 := by
  unfold zFind
  rw [hF]
  exact zSrch_no (fun m a b => hno m a (by omega))
theorem zLook_c (σ : zT) (k : Int) : ∀ t i, t ≠ 0 → (i ≠ k ∨ t < 17 ∨ 20 < t) → t < 30 → t ≠ 10 → zLook σ k t i = σ t i := fun t i _ h _ _ => by
  by_cases q : i = k
  · exact zLook_o (by omega) (by omega)
  · exact zLook_i q
theorem pC_look (hI : zInv σ) (hB : zB σ) (hk : 0 ≤ k ∧ k < σ 14 0) : pC (zLook σ k) k = pC σ k % 1024 + 1024 * (if zFind σ k = -1 then 1 else if zFind σ k = σ 1 0 then 3 else 2) := by
  have g := hI.c hk
  have b : σ 5 0 ≤ 6 ∧ σ 11 0 ≤ 4 ∧ σ 14 0 ≤ 10 := hB
  unfold pC
  rw [zLook_o (by decide) (by decide), zLook_o (by decide) (by decide), zLook_o (by decide) (by decide), zLook_19]
  generalize (if zFind σ k = -1 then (1 : Int) else if zFind σ k = σ 1 0 then 3 else 2) = x
  omega
/-- it has looked -/
theorem Rl_look {τ' : zT} (h : Rl τ σ) (hI : zInv σ) (hB : zB σ) (hk : 0 ≤ k ∧ k < σ 14 0) (e : ∀ t i, ¬ (i = k ∧ (t = 3 ∨ t = 5)) → τ' t i = τ t i) {x : Int} (h3 : τ' 3 k = pC σ k % 1024 + 1024 * x) (h5 : τ' 5 k = zFind σ k) (hx : x = (if zFind σ k = -1 then 1 else if zFind σ k = σ 1 0 then 3 else 2)) : Rl τ' (zLook σ k) := by
  refine h.conf hk e (zLook_c σ k) ?_ ?_
  · rw [h3, pC_look hI hB hk, hx]
  · rw [h5, zLook_20]
theorem Rl_lk0 {τ' : zT} (h : Rl τ σ) (hI : zInv σ) (hB : zB σ) (hk : 0 ≤ k ∧ k < σ 14 0) (e : ∀ t i, ¬ (i = k ∧ (t = 3 ∨ t = 5)) → τ' t i = τ t i) (h3 : τ' 3 k = pC σ k % 1024 + 1024) (h5 : τ' 5 k = -1) : Rl τ' (zLk0 σ k) := by
  have g := hI.c hk
  have b : σ 5 0 ≤ 6 ∧ σ 11 0 ≤ 4 ∧ σ 14 0 ≤ 10 := hB
  refine h.conf hk e (fun t i _ q _ _ => zLk0_o (by omega)) ?_ ?_
  · rw [h3]
    unfold pC
    rw [zLk0_19, zLk0_o (Or.inr (by decide)), zLk0_o (Or.inr (by decide)), zLk0_o (Or.inr (by decide))]
    omega
  · rw [h5, zLk0_20]
end LK
theorem zup_e2 {τ : zT} {t t' : Nat} {i i' v : Int} (h : ¬ (t' = t ∧ i' = i)) : zup τ t i v t' i' = τ t' i' := if_neg h
/-- a writer of the law's rows -/
def zWA (l : Launch) (y : MethodName) (ws : List Cond) (rm : Room) (D : va_G) (cI cO cL : ClassId) (la : Nat → Nat) (av : List Value) (H0 : Heap) (post : zT → Prop) : Prop :=
  Met l y ws rm (va_Pc av (fun U => U.heap = H0 ∧ zKK D cI cO cL U)) (fun _ st o t => (o = .returned none ∧ ∃ τ', post τ' ∧ RA D cI la τ' t.heap) ∧ t.heap.size = st.heap.size ∧ ∀ q : Nat, q < st.heap.size → ¬ AL la q → t.heap[q]? = st.heap[q]?) 0 0 (AL la)
theorem z_endA {D : va_G} {cI : ClassId} {la : Nat → Nat} {s : State} {H : Heap} {locs : List Loc} {τ' : zT} {post : zT → Prop} (h : post τ') (hR : RA D cI la τ' H) (hz : H.size = s.heap.size) (hS : va_S (AL la) s.heap H locs) : ∀ t : State, t.heap = H → s.WarmedH t.vm → (Outcome.returned none = .returned none ∧ ∃ τ', post τ' ∧ RA D cI la τ' t.heap) ∧ t.heap.size = s.heap.size ∧ ∀ q : Nat, q < s.heap.size → ¬ AL la q → t.heap[q]? = s.heap[q]? :=
  fun t ht _ => ⟨⟨rfl, τ', h, by rw [ht]; exact hR⟩, by rw [ht]; exact hz, fun q h1 h2 => by rw [ht]; exact hS.2.1 q h1 h2⟩
theorem z_wa {l : Launch} {p : Program} {e : Env} {R : Room} {s : State} {m : MethodId} {args : Array Value} {below : List Frame} {meth : Method} {c : Code} {H H0 : Heap} {locs : List Loc} {cells slots : Nat} {Q : State → Prop} {cc bytes : ByteArray} {pc nL maxL index n : Nat} {ls : Array Slot} {st0 rest As : List Value} {y : MethodName} {ret : Option FieldType} {ws : List Cond} {rm : Room} {Ts : List Cond} {own : String} {D : va_G} {cI cO cL : ClassId} {la : Nat → Nat} {A : Nat → Prop} {post : zT → Prop}
    (S : CallFix p m c cc nL s args Ts own) (hM : zWA l y ws rm D cI cO cL la As H post) (cw : CallB R s args own index y bytes maxL ret ws rm 0 0 n ∧ (Cond.static y).before args s = true) (hK : zKK D cI cO cL s) (hS : va_S A H0 H locs) (hA : ∀ q, AL la q → A q)
    (hn : As.length = n) (hsize : ls.size = nL) (hst : st0 = As.reverse ++ rest) (hW : (rest.map fun v => v.category).sum ≤ 8) (hdg : decode cc pc = .ok (.invokestatic index, 3)) (hf : cells ≤ R.cells ∧ slots ≤ R.slots)
    (kk : ∀ (τ' : zT) (H1 : Heap) (locs1 : List Loc), post τ' → RA D cI la τ' H1 → H1.size = H.size → (∀ q : Nat, q < H.size → ¬ AL la q → H1[q]? = H[q]?) → va_S A H0 H1 locs1 → W p l e R s m args below meth c H1 locs1 cells slots Q (F0 m (pc + 3) ls rest)) : W p l e R s m args below meth c H locs cells slots Q (F0 m pc ls st0) := by
  refine z_run (va_runS S hM cw ⟨fun a U g mk q => ⟨q.1, q.2.1, va_K.moved (u := U) (U := U.calling g mk a) (Vm.Alike.refl U.vm) q.2.2⟩, fun U hU hWm => ⟨rfl, hU, va_K.moved hWm.alike hK⟩⟩ rfl hn hsize hst (lv_room (pc := pc) (ls := ls) (rest := st0) (m := m) hW) hdg hf) (fun v st₀ t H1 L h0 h1 hv hq hL => ?_)
  obtain ⟨⟨hr1, τ', hp, hRA⟩, hz, hk⟩ := hq
  cases hr1
  rw [h0] at hz hk
  rw [h1] at hRA hz hk
  refine kk τ' H1 (locs ++ L) hp hRA hz hk ⟨by rw [hz]; exact hS.1, fun q h3 h4 => ?_, fun q hq => ?_⟩
  · rw [hk q (Nat.lt_of_lt_of_le h3 hS.1) (fun z => h4 (hA q z))]; exact hS.2.1 q h3 h4
  · rcases List.mem_append.mp hq with h | h
    · exact hS.2.2 q h
    · exact hA _ (hL q h)
set_option maxRecDepth 100000 in
set_option maxHeartbeats 4000000 in
theorem c_L_looks (l : Launch) (D : va_G) (cI cO cL : ClassId) (la : Nat → Nat) (hM : LA la) (τ σ : zT) (H0 : Heap) (hR : RA D cI la τ H0) (k : Int) (hI : zInv σ) (hB : zB σ) (hT : Rl τ σ) (hk : 0 ≤ k ∧ k < σ 14 0) : zWA l yL_looks wsL_looks ({ frames := 2, cells := 0, slots := 0, locals := 55 }) D cI cO cL la [.int (zI k), .ref (la 0), .ref (la 1), .ref (la 3), .ref (la 4), .ref (la 5)] H0 (fun τ' => Rl τ' (zLook σ k)) := by
  refine Met.ofW (cc := cL_looks) (maxL := 8) (ret := none) (by decide) rfl ?_
  intro p e s m args below meth c s₁ B hml hv
  obtain ⟨rfl, hH, hK⟩ := hv
  subst hH
  have hx := B.exec
  have hb := B.bytes
  have hr := B.returns
  have hts := atoms_spec (ws := wsL_looks) B.pre
  have hown : s.vm.findClass RL = some m.cls := findClass_of_methodNamed B.named
  have hlocks := B.notSynchronized
  have hl := lv_entry ([.int (zI k), .ref (la 0), .ref (la 1), .ref (la 3), .ref (la 4), .ref (la 5)]) (n := 8) (Nat.le_of_ble_eq_true rfl)
  rw [lg_entry_eq]
  generalize (lg_sl ([.int (zI k), .ref (la 0), .ref (la 1), .ref (la 3), .ref (la 4), .ref (la 5)]) ++ List.replicate (8 - (lg_sl ([.int (zI k), .ref (la 0), .ref (la 1), .ref (la 3), .ref (la 4), .ref (la 5)])).length) Slot.unset).toArray = ls at hl ⊢
  have hl : lv_has ls 8 [(0, .int (zI k)), (1, .ref (la 0)), (2, .ref (la 1)), (3, .ref (la 3)), (4, .ref (la 4)), (5, .ref (la 5))] := hl
  have f0 := hI.r
  have b0 : σ 5 0 ≤ 6 ∧ σ 11 0 ≤ 4 ∧ σ 14 0 ≤ 10 := hB
  have fk := hI.c hk
  have gk := hI.s (i := σ 15 k) (by omega)
  refine lv_aload hx hb dL_looks_0 (lv_at hl 4 rfl) ?_
  refine lv_iload_n hx hb dL_looks_2 rfl (lv_at hl 0 rfl) ?_
  refine l_ald hx hb hK hR 4 (by decide) (by show 0 ≤ k ∧ k < ((10 : Nat) : Int); omega) dL_looks_3 ?_
  refine z_top (b := σ 16 k) (by rw [hT.w (i := k) (by omega)]) ?_
  refine lv_aload_n hx hb dL_looks_4 rfl (lv_at hl 1 rfl) ?_
  refine z_iconst hx hb dL_looks_5 ?_
  refine l_ald hx hb hK hR 0 (by decide) (by show 0 ≤ 0 ∧ 0 < ((6 : Nat) : Int); omega) dL_looks_6 ?_
  refine z_top (b := σ 1 0) (by rw [hT.g0]) ?_
  refine z_icmp_ge (tgt := 16) hx hb dL_looks_7 (by decide) (by omega) (fun c_1 => ?_) (fun c_1 => ?_)
  · refine lv_aload hx hb dL_looks_16 (lv_at hl 4 rfl) ?_
    refine lv_iload_n hx hb dL_looks_18 rfl (lv_at hl 0 rfl) ?_
    refine l_ald hx hb hK hR 4 (by decide) (by show 0 ≤ k ∧ k < ((10 : Nat) : Int); omega) dL_looks_19 ?_
    refine z_top (b := σ 16 k) (by rw [hT.w (i := k) (by omega)]) ?_
    refine lv_istore (lv' := [(6, .int (zI (σ 16 k))), (0, .int (zI k)), (1, .ref (la 0)), (2, .ref (la 1)), (3, .ref (la 3)), (4, .ref (la 4)), (5, .ref (la 5))]) hx hb dL_looks_20 hl (by decide) rfl (fun ls hl => ?_)
    refine lv_aload hx hb dL_looks_22 (lv_at hl 6 rfl) ?_
    refine lv_iload_n hx hb dL_looks_24 rfl (lv_at hl 1 rfl) ?_
    refine z_iconst hx hb dL_looks_25 ?_
    refine l_ast hx hb hK hR hM (va_S.rf (A := AL la)) (fun _ z => z) 5 (by decide) (by show 0 ≤ k ∧ k < ((10 : Nat) : Int); omega) dL_looks_26 (fun H_2 locsH_2 hRH_2 hzH_2 hoH_2 hSH_2 => ?_)
    refine lv_aload_n hx hb dL_looks_27 rfl (lv_at hl 4 rfl) ?_
    refine lv_iload_n hx hb dL_looks_28 rfl (lv_at hl 1 rfl) ?_
    refine lv_aload_n hx hb dL_looks_29 rfl (lv_at hl 4 rfl) ?_
    refine lv_iload_n hx hb dL_looks_30 rfl (lv_at hl 1 rfl) ?_
    refine l_ald hx hb hK hRH_2 3 (by decide) (by show 0 ≤ k ∧ k < ((10 : Nat) : Int); omega) dL_looks_31 ?_
    refine z_top (b := pC σ k) (by rw [zup_t (t := 5) (t' := 3) (by decide), hT.c (i := k) (by omega)]) ?_
    refine z_sipush hx hb dL_looks_32 (by decide +kernel) ?_
    refine l_and hx hb 10 (by decide +kernel) dL_looks_35 (by first | exact pC_r hI hB hk | omega) ?_
    refine z_top (b := pC σ k % 1024) (by first | rfl | (show _ % 1024 = _; omega)) ?_
    refine z_sipush hx hb dL_looks_36 (by decide +kernel) ?_
    refine l_or hx hb 10 1 (by decide) (by decide) (by show 0 ≤ _ ∧ _ < (1024 : Int); omega) (by decide) dL_looks_39 ?_
    refine z_top (b := pC σ k % 1024 + 1024 * 1) rfl ?_
    refine l_ast hx hb hK hRH_2 hM hSH_2 (fun _ z => z) 3 (by decide) (by show 0 ≤ k ∧ k < ((10 : Nat) : Int); omega) dL_looks_40 (fun H_3 locsH_3 hRH_3 hzH_3 hoH_3 hSH_3 => ?_)
    refine lv_iload hx hb dL_looks_41 (lv_at hl 0 rfl) ?_
    refine lv_istore (lv' := [(7, .int (zI (σ 16 k))), (6, .int (zI (σ 16 k))), (0, .int (zI k)), (1, .ref (la 0)), (2, .ref (la 1)), (3, .ref (la 3)), (4, .ref (la 4)), (5, .ref (la 5))]) hx hb dL_looks_43 hl (by decide) rfl (fun ls hl => ?_)
    have hF : (if σ 1 0 < σ 16 k then σ 16 k else σ 1 0) = (σ 16 k) := by split <;> omega
    have hT2 : Rl (zup (zup τ 5 k (-1)) 3 k (pC σ k % 1024 + 1024 * 1)) (zLk0 σ k) := Rl_lk0 hT hI hB hk (by intro t i hq; repeat (first | exact rfl | rw [zup_e2 (by omega)])) (by rw [zup_s]; omega) (by rw [zup_t (by decide), zup_s])
    refine z_cap (fun WW_hL wi_hL wo_hL => ?_)
    have hL : ∀ (n : Nat) (i : Int) (ls : Array Slot), (∀ m2, (σ 16 k) ≤ m2 → m2 < i → ¬ zOk σ k m2) → ((σ 16 k) ≤ i ∧ i ≤ (σ 16 k) + 1441) → ((σ 16 k) + 1441 - i).toNat < n → lv_has ls 8 [(6, .int (zI (σ 16 k))), (0, .int (zI k)), (1, .ref (la 0)), (2, .ref (la 1)), (3, .ref (la 3)), (4, .ref (la 4)), (5, .ref (la 5)), (7, .int (zI i))] → WW_hL H_3 locsH_3 0 0 (F0 m 45 ls []) := by
      intro n_hL
      induction n_hL with
      | zero => intro i ls hd hi hm; exact absurd hm (Nat.not_lt_zero _)
      | succ n_hL ih_hL =>
        intro i ls hd hi hm hl
        refine wi_hL _ _ _ _ _ ?_
        have hwr := zwhy_r (σ := zLk0 σ k) k i
        refine lv_iload hx hb dL_looks_45 (lv_at hl 7 rfl) ?_
        refine lv_iload hx hb dL_looks_47 (lv_at hl 0 rfl) ?_
        refine z_sipush hx hb dL_looks_49 (by decide +kernel) ?_
        refine z_iadd hx hb dL_looks_52 ?_
        refine z_icmp_ge (tgt := 113) hx hb dL_looks_53 (by decide) (by omega) (fun c_4 => ?_) (fun c_4 => ?_)
        · have hfi : zFind σ k = -1 := zFind_no hF (fun m2 a b => hd m2 a (by omega))
          exact W.vret hx hb hr (z_endA (post := fun τ' => Rl τ' (zLook σ k)) (τ' := (zup (zup τ 5 k (-1)) 3 k (pC σ k % 1024 + 1024 * 1))) (Rl_look hT hI hB hk (by intro t i hq; repeat (first | exact rfl | rw [zup_e2 (by omega)])) (x := 1) (by rw [zup_s]) (by rw [zup_t (by decide), zup_s, hfi]) (by rw [if_pos hfi])) hRH_3 (hzH_3.trans (hzH_2.trans rfl)) hSH_3) hSH_3.2.2 dL_looks_113
        · refine lv_iload_n hx hb dL_looks_56 rfl (lv_at hl 1 rfl) ?_
          refine lv_iload hx hb dL_looks_57 (lv_at hl 7 rfl) ?_
          refine lv_aload_n hx hb dL_looks_59 rfl (lv_at hl 2 rfl) ?_
          refine lv_aload_n hx hb dL_looks_60 rfl (lv_at hl 3 rfl) ?_
          refine lv_aload_n hx hb dL_looks_61 rfl (lv_at hl 4 rfl) ?_
          refine lv_aload hx hb dL_looks_62 (lv_at hl 6 rfl) ?_
          refine z_cs (As := [.int (zI k), .int (zI i), .ref (la 0), .ref (la 1), .ref (la 3), .ref (la 5)]) (rest := []) ⟨hx, hb, hml, hown, hts⟩ (c_L_reason l D cI cO cL la (zup (zup τ 5 k (-1)) 3 k (pC σ k % 1024 + 1024 * 1)) (zLk0 σ k) H_3 hRH_3 k i (zInv_lk0 hI) (zB_lk0 hB) hT2 hk (by omega)) (va_cwS 6 hts gL_looks_L_reason rfl rfl rfl (by decide +kernel) ⟨(Nat.le_of_ble_eq_true rfl), (Nat.le_of_ble_eq_true rfl)⟩) (zKK_mv D cI cO cL) (fun U _ hv => va_K.moved hv hK) rfl hl.1 rfl (Nat.le_of_ble_eq_true rfl) dL_looks_64 ⟨Nat.zero_le _, Nat.zero_le _⟩ (fun r_5 hr_5 => ?_)
          rw [hr_5]
          refine z_if_eq (tgt := 73) hx hb dL_looks_67 (by decide) (by omega) (fun c_6 => ?_) (fun c_6 => ?_)
          · have hok : zOk σ k i := (zwhy_lk0 i).mp c_6
            refine lv_aload hx hb dL_looks_73 (lv_at hl 6 rfl) ?_
            refine lv_iload_n hx hb dL_looks_75 rfl (lv_at hl 1 rfl) ?_
            refine lv_iload hx hb dL_looks_76 (lv_at hl 7 rfl) ?_
            refine l_ast hx hb hK hRH_3 hM hSH_3 (fun _ z => z) 5 (by decide) (by show 0 ≤ k ∧ k < ((10 : Nat) : Int); omega) dL_looks_78 (fun H_7 locsH_7 hRH_7 hzH_7 hoH_7 hSH_7 => ?_)
            refine lv_aload_n hx hb dL_looks_79 rfl (lv_at hl 4 rfl) ?_
            refine lv_iload_n hx hb dL_looks_80 rfl (lv_at hl 1 rfl) ?_
            refine lv_aload_n hx hb dL_looks_81 rfl (lv_at hl 4 rfl) ?_
            refine lv_iload_n hx hb dL_looks_82 rfl (lv_at hl 1 rfl) ?_
            refine l_ald hx hb hK hRH_7 3 (by decide) (by show 0 ≤ k ∧ k < ((10 : Nat) : Int); omega) dL_looks_83 ?_
            refine z_top (b := (pC σ k % 1024 + 1024 * 1)) (by rw [zup_t (t := 5) (t' := 3) (by decide), zup_s]) ?_
            refine z_sipush hx hb dL_looks_84 (by decide +kernel) ?_
            refine l_and hx hb 10 (by decide +kernel) dL_looks_87 (by first | exact pC_r hI hB hk | omega) ?_
            refine z_top (b := pC σ k % 1024) (by first | rfl | (show _ % 1024 = _; omega)) ?_
            refine lv_iload hx hb dL_looks_88 (lv_at hl 7 rfl) ?_
            refine lv_aload_n hx hb dL_looks_90 rfl (lv_at hl 2 rfl) ?_
            refine z_iconst hx hb dL_looks_91 ?_
            refine l_ald hx hb hK hRH_7 0 (by decide) (by show 0 ≤ 0 ∧ 0 < ((6 : Nat) : Int); omega) dL_looks_92 ?_
            refine z_top (b := σ 1 0) (by rw [zup_t (t := 5) (t' := 0) (by decide), zup_t (t := 3) (t' := 0) (by decide), zup_t (t := 5) (t' := 0) (by decide), hT.g0]) ?_
            refine z_icmp_ne (tgt := 100) hx hb dL_looks_93 (by decide) (by omega) (fun c_8 => ?_) (fun c_8 => ?_)
            · refine z_iconst hx hb dL_looks_100 ?_
              refine z_bipush hx hb dL_looks_101 (by decide +kernel) ?_
              refine l_shl hx hb 10 (by decide +kernel) (by decide) dL_looks_103 (by decide) ?_
              refine z_top (b := 2048) rfl ?_
              refine l_or hx hb 10 2 (by decide) (by decide) (by show 0 ≤ _ ∧ _ < (1024 : Int); omega) (by decide) dL_looks_104 ?_
              refine z_top (b := pC σ k % 1024 + 1024 * 2) rfl ?_
              refine l_ast hx hb hK hRH_7 hM hSH_7 (fun _ z => z) 3 (by decide) (by show 0 ≤ k ∧ k < ((10 : Nat) : Int); omega) dL_looks_105 (fun H_9 locsH_9 hRH_9 hzH_9 hoH_9 hSH_9 => ?_)
              have hfi : zFind σ k = i := zFind_is hF (by omega) hok hd
              exact W.vret hx hb hr (z_endA (post := fun τ' => Rl τ' (zLook σ k)) (τ' := (zup (zup (zup (zup τ 5 k (-1)) 3 k (pC σ k % 1024 + 1024 * 1)) 5 k i) 3 k (pC σ k % 1024 + 1024 * 2))) (Rl_look hT hI hB hk (by intro t i hq; repeat (first | exact rfl | rw [zup_e2 (by omega)])) (x := 2) (by rw [zup_s]) (by rw [zup_t (by decide), zup_s, hfi]) (by rw [hfi, if_neg (by omega)]; first | rw [if_pos (by omega)] | rw [if_neg (by omega)])) hRH_9 (hzH_9.trans (hzH_7.trans (hzH_3.trans (hzH_2.trans rfl)))) hSH_9) hSH_9.2.2 dL_looks_106
            · refine z_iconst hx hb dL_looks_96 ?_
              refine lv_goto (tgt := 101) hx hb dL_looks_97 (by decide) ?_
              refine z_bipush hx hb dL_looks_101 (by decide +kernel) ?_
              refine l_shl hx hb 10 (by decide +kernel) (by decide) dL_looks_103 (by decide) ?_
              refine z_top (b := 3072) rfl ?_
              refine l_or hx hb 10 3 (by decide) (by decide) (by show 0 ≤ _ ∧ _ < (1024 : Int); omega) (by decide) dL_looks_104 ?_
              refine z_top (b := pC σ k % 1024 + 1024 * 3) rfl ?_
              refine l_ast hx hb hK hRH_7 hM hSH_7 (fun _ z => z) 3 (by decide) (by show 0 ≤ k ∧ k < ((10 : Nat) : Int); omega) dL_looks_105 (fun H_10 locsH_10 hRH_10 hzH_10 hoH_10 hSH_10 => ?_)
              have hfi : zFind σ k = i := zFind_is hF (by omega) hok hd
              exact W.vret hx hb hr (z_endA (post := fun τ' => Rl τ' (zLook σ k)) (τ' := (zup (zup (zup (zup τ 5 k (-1)) 3 k (pC σ k % 1024 + 1024 * 1)) 5 k i) 3 k (pC σ k % 1024 + 1024 * 3))) (Rl_look hT hI hB hk (by intro t i hq; repeat (first | exact rfl | rw [zup_e2 (by omega)])) (x := 3) (by rw [zup_s]) (by rw [zup_t (by decide), zup_s, hfi]) (by rw [hfi, if_neg (by omega)]; first | rw [if_pos (by omega)] | rw [if_neg (by omega)])) hRH_10 (hzH_10.trans (hzH_7.trans (hzH_3.trans (hzH_2.trans rfl)))) hSH_10) hSH_10.2.2 dL_looks_106
          · have hno : ¬ zOk σ k i := fun z => c_6 ((zwhy_lk0 i).mpr z)
            refine lv_goto (tgt := 107) hx hb dL_looks_70 (by decide) ?_
            refine z_iinc (lv' := [(7, .int (zI (i + 1))), (6, .int (zI (σ 16 k))), (0, .int (zI k)), (1, .ref (la 0)), (2, .ref (la 1)), (3, .ref (la 3)), (4, .ref (la 4)), (5, .ref (la 5))]) hx hb dL_looks_107 hl (k := 7) rfl (by decide) rfl (fun ls hl => ?_)
            refine lv_goto (tgt := 45) hx hb dL_looks_110 (by decide) ?_
            exact wo_hL _ _ _ _ _ (ih_hL (i + 1) ls (by exact fun o a b => if e9 : o = i then by rw [e9]; exact hno else hd o a (by omega)) (by omega) (by omega) (lv_sub hl [1, 2, 3, 4, 5, 6, 7, 0] rfl))
    exact wo_hL _ _ _ _ _ (hL _ (σ 16 k) ls (by intro m2 a b; omega) (by omega) (Nat.lt_succ_self _) (lv_sub hl [1, 2, 3, 4, 5, 6, 7, 0] rfl))
  · refine lv_aload_n hx hb dL_looks_10 rfl (lv_at hl 1 rfl) ?_
    refine z_iconst hx hb dL_looks_11 ?_
    refine l_ald hx hb hK hR 0 (by decide) (by show 0 ≤ 0 ∧ 0 < ((6 : Nat) : Int); omega) dL_looks_12 ?_
    refine z_top (b := σ 1 0) (by rw [hT.g0]) ?_
    refine lv_goto (tgt := 20) hx hb dL_looks_13 (by decide) ?_
    refine lv_istore (lv' := [(6, .int (zI (σ 1 0))), (0, .int (zI k)), (1, .ref (la 0)), (2, .ref (la 1)), (3, .ref (la 3)), (4, .ref (la 4)), (5, .ref (la 5))]) hx hb dL_looks_20 hl (by decide) rfl (fun ls hl => ?_)
    refine lv_aload hx hb dL_looks_22 (lv_at hl 6 rfl) ?_
    refine lv_iload_n hx hb dL_looks_24 rfl (lv_at hl 1 rfl) ?_
    refine z_iconst hx hb dL_looks_25 ?_
    refine l_ast hx hb hK hR hM (va_S.rf (A := AL la)) (fun _ z => z) 5 (by decide) (by show 0 ≤ k ∧ k < ((10 : Nat) : Int); omega) dL_looks_26 (fun H_11 locsH_11 hRH_11 hzH_11 hoH_11 hSH_11 => ?_)
    refine lv_aload_n hx hb dL_looks_27 rfl (lv_at hl 4 rfl) ?_
    refine lv_iload_n hx hb dL_looks_28 rfl (lv_at hl 1 rfl) ?_
    refine lv_aload_n hx hb dL_looks_29 rfl (lv_at hl 4 rfl) ?_
    refine lv_iload_n hx hb dL_looks_30 rfl (lv_at hl 1 rfl) ?_
    refine l_ald hx hb hK hRH_11 3 (by decide) (by show 0 ≤ k ∧ k < ((10 : Nat) : Int); omega) dL_looks_31 ?_
    refine z_top (b := pC σ k) (by rw [zup_t (t := 5) (t' := 3) (by decide), hT.c (i := k) (by omega)]) ?_
    refine z_sipush hx hb dL_looks_32 (by decide +kernel) ?_
    refine l_and hx hb 10 (by decide +kernel) dL_looks_35 (by first | exact pC_r hI hB hk | omega) ?_
    refine z_top (b := pC σ k % 1024) (by first | rfl | (show _ % 1024 = _; omega)) ?_
    refine z_sipush hx hb dL_looks_36 (by decide +kernel) ?_
    refine l_or hx hb 10 1 (by decide) (by decide) (by show 0 ≤ _ ∧ _ < (1024 : Int); omega) (by decide) dL_looks_39 ?_
    refine z_top (b := pC σ k % 1024 + 1024 * 1) rfl ?_
    refine l_ast hx hb hK hRH_11 hM hSH_11 (fun _ z => z) 3 (by decide) (by show 0 ≤ k ∧ k < ((10 : Nat) : Int); omega) dL_looks_40 (fun H_12 locsH_12 hRH_12 hzH_12 hoH_12 hSH_12 => ?_)
    refine lv_iload hx hb dL_looks_41 (lv_at hl 0 rfl) ?_
    refine lv_istore (lv' := [(7, .int (zI (σ 1 0))), (6, .int (zI (σ 1 0))), (0, .int (zI k)), (1, .ref (la 0)), (2, .ref (la 1)), (3, .ref (la 3)), (4, .ref (la 4)), (5, .ref (la 5))]) hx hb dL_looks_43 hl (by decide) rfl (fun ls hl => ?_)
    have hF : (if σ 1 0 < σ 16 k then σ 16 k else σ 1 0) = (σ 1 0) := by split <;> omega
    have hT2 : Rl (zup (zup τ 5 k (-1)) 3 k (pC σ k % 1024 + 1024 * 1)) (zLk0 σ k) := Rl_lk0 hT hI hB hk (by intro t i hq; repeat (first | exact rfl | rw [zup_e2 (by omega)])) (by rw [zup_s]; omega) (by rw [zup_t (by decide), zup_s])
    refine z_cap (fun WW_hL wi_hL wo_hL => ?_)
    have hL : ∀ (n : Nat) (i : Int) (ls : Array Slot), (∀ m2, (σ 1 0) ≤ m2 → m2 < i → ¬ zOk σ k m2) → ((σ 1 0) ≤ i ∧ i ≤ (σ 1 0) + 1441) → ((σ 1 0) + 1441 - i).toNat < n → lv_has ls 8 [(6, .int (zI (σ 1 0))), (0, .int (zI k)), (1, .ref (la 0)), (2, .ref (la 1)), (3, .ref (la 3)), (4, .ref (la 4)), (5, .ref (la 5)), (7, .int (zI i))] → WW_hL H_12 locsH_12 0 0 (F0 m 45 ls []) := by
      intro n_hL
      induction n_hL with
      | zero => intro i ls hd hi hm; exact absurd hm (Nat.not_lt_zero _)
      | succ n_hL ih_hL =>
        intro i ls hd hi hm hl
        refine wi_hL _ _ _ _ _ ?_
        have hwr := zwhy_r (σ := zLk0 σ k) k i
        refine lv_iload hx hb dL_looks_45 (lv_at hl 7 rfl) ?_
        refine lv_iload hx hb dL_looks_47 (lv_at hl 0 rfl) ?_
        refine z_sipush hx hb dL_looks_49 (by decide +kernel) ?_
        refine z_iadd hx hb dL_looks_52 ?_
        refine z_icmp_ge (tgt := 113) hx hb dL_looks_53 (by decide) (by omega) (fun c_13 => ?_) (fun c_13 => ?_)
        · have hfi : zFind σ k = -1 := zFind_no hF (fun m2 a b => hd m2 a (by omega))
          exact W.vret hx hb hr (z_endA (post := fun τ' => Rl τ' (zLook σ k)) (τ' := (zup (zup τ 5 k (-1)) 3 k (pC σ k % 1024 + 1024 * 1))) (Rl_look hT hI hB hk (by intro t i hq; repeat (first | exact rfl | rw [zup_e2 (by omega)])) (x := 1) (by rw [zup_s]) (by rw [zup_t (by decide), zup_s, hfi]) (by rw [if_pos hfi])) hRH_12 (hzH_12.trans (hzH_11.trans rfl)) hSH_12) hSH_12.2.2 dL_looks_113
        · refine lv_iload_n hx hb dL_looks_56 rfl (lv_at hl 1 rfl) ?_
          refine lv_iload hx hb dL_looks_57 (lv_at hl 7 rfl) ?_
          refine lv_aload_n hx hb dL_looks_59 rfl (lv_at hl 2 rfl) ?_
          refine lv_aload_n hx hb dL_looks_60 rfl (lv_at hl 3 rfl) ?_
          refine lv_aload_n hx hb dL_looks_61 rfl (lv_at hl 4 rfl) ?_
          refine lv_aload hx hb dL_looks_62 (lv_at hl 6 rfl) ?_
          refine z_cs (As := [.int (zI k), .int (zI i), .ref (la 0), .ref (la 1), .ref (la 3), .ref (la 5)]) (rest := []) ⟨hx, hb, hml, hown, hts⟩ (c_L_reason l D cI cO cL la (zup (zup τ 5 k (-1)) 3 k (pC σ k % 1024 + 1024 * 1)) (zLk0 σ k) H_12 hRH_12 k i (zInv_lk0 hI) (zB_lk0 hB) hT2 hk (by omega)) (va_cwS 6 hts gL_looks_L_reason rfl rfl rfl (by decide +kernel) ⟨(Nat.le_of_ble_eq_true rfl), (Nat.le_of_ble_eq_true rfl)⟩) (zKK_mv D cI cO cL) (fun U _ hv => va_K.moved hv hK) rfl hl.1 rfl (Nat.le_of_ble_eq_true rfl) dL_looks_64 ⟨Nat.zero_le _, Nat.zero_le _⟩ (fun r_14 hr_14 => ?_)
          rw [hr_14]
          refine z_if_eq (tgt := 73) hx hb dL_looks_67 (by decide) (by omega) (fun c_15 => ?_) (fun c_15 => ?_)
          · have hok : zOk σ k i := (zwhy_lk0 i).mp c_15
            refine lv_aload hx hb dL_looks_73 (lv_at hl 6 rfl) ?_
            refine lv_iload_n hx hb dL_looks_75 rfl (lv_at hl 1 rfl) ?_
            refine lv_iload hx hb dL_looks_76 (lv_at hl 7 rfl) ?_
            refine l_ast hx hb hK hRH_12 hM hSH_12 (fun _ z => z) 5 (by decide) (by show 0 ≤ k ∧ k < ((10 : Nat) : Int); omega) dL_looks_78 (fun H_16 locsH_16 hRH_16 hzH_16 hoH_16 hSH_16 => ?_)
            refine lv_aload_n hx hb dL_looks_79 rfl (lv_at hl 4 rfl) ?_
            refine lv_iload_n hx hb dL_looks_80 rfl (lv_at hl 1 rfl) ?_
            refine lv_aload_n hx hb dL_looks_81 rfl (lv_at hl 4 rfl) ?_
            refine lv_iload_n hx hb dL_looks_82 rfl (lv_at hl 1 rfl) ?_
            refine l_ald hx hb hK hRH_16 3 (by decide) (by show 0 ≤ k ∧ k < ((10 : Nat) : Int); omega) dL_looks_83 ?_
            refine z_top (b := (pC σ k % 1024 + 1024 * 1)) (by rw [zup_t (t := 5) (t' := 3) (by decide), zup_s]) ?_
            refine z_sipush hx hb dL_looks_84 (by decide +kernel) ?_
            refine l_and hx hb 10 (by decide +kernel) dL_looks_87 (by first | exact pC_r hI hB hk | omega) ?_
            refine z_top (b := pC σ k % 1024) (by first | rfl | (show _ % 1024 = _; omega)) ?_
            refine lv_iload hx hb dL_looks_88 (lv_at hl 7 rfl) ?_
            refine lv_aload_n hx hb dL_looks_90 rfl (lv_at hl 2 rfl) ?_
            refine z_iconst hx hb dL_looks_91 ?_
            refine l_ald hx hb hK hRH_16 0 (by decide) (by show 0 ≤ 0 ∧ 0 < ((6 : Nat) : Int); omega) dL_looks_92 ?_
            refine z_top (b := σ 1 0) (by rw [zup_t (t := 5) (t' := 0) (by decide), zup_t (t := 3) (t' := 0) (by decide), zup_t (t := 5) (t' := 0) (by decide), hT.g0]) ?_
            refine z_icmp_ne (tgt := 100) hx hb dL_looks_93 (by decide) (by omega) (fun c_17 => ?_) (fun c_17 => ?_)
            · refine z_iconst hx hb dL_looks_100 ?_
              refine z_bipush hx hb dL_looks_101 (by decide +kernel) ?_
              refine l_shl hx hb 10 (by decide +kernel) (by decide) dL_looks_103 (by decide) ?_
              refine z_top (b := 2048) rfl ?_
              refine l_or hx hb 10 2 (by decide) (by decide) (by show 0 ≤ _ ∧ _ < (1024 : Int); omega) (by decide) dL_looks_104 ?_
              refine z_top (b := pC σ k % 1024 + 1024 * 2) rfl ?_
              refine l_ast hx hb hK hRH_16 hM hSH_16 (fun _ z => z) 3 (by decide) (by show 0 ≤ k ∧ k < ((10 : Nat) : Int); omega) dL_looks_105 (fun H_18 locsH_18 hRH_18 hzH_18 hoH_18 hSH_18 => ?_)
              have hfi : zFind σ k = i := zFind_is hF (by omega) hok hd
              exact W.vret hx hb hr (z_endA (post := fun τ' => Rl τ' (zLook σ k)) (τ' := (zup (zup (zup (zup τ 5 k (-1)) 3 k (pC σ k % 1024 + 1024 * 1)) 5 k i) 3 k (pC σ k % 1024 + 1024 * 2))) (Rl_look hT hI hB hk (by intro t i hq; repeat (first | exact rfl | rw [zup_e2 (by omega)])) (x := 2) (by rw [zup_s]) (by rw [zup_t (by decide), zup_s, hfi]) (by rw [hfi, if_neg (by omega)]; first | rw [if_pos (by omega)] | rw [if_neg (by omega)])) hRH_18 (hzH_18.trans (hzH_16.trans (hzH_12.trans (hzH_11.trans rfl)))) hSH_18) hSH_18.2.2 dL_looks_106
            · refine z_iconst hx hb dL_looks_96 ?_
              refine lv_goto (tgt := 101) hx hb dL_looks_97 (by decide) ?_
              refine z_bipush hx hb dL_looks_101 (by decide +kernel) ?_
              refine l_shl hx hb 10 (by decide +kernel) (by decide) dL_looks_103 (by decide) ?_
              refine z_top (b := 3072) rfl ?_
              refine l_or hx hb 10 3 (by decide) (by decide) (by show 0 ≤ _ ∧ _ < (1024 : Int); omega) (by decide) dL_looks_104 ?_
              refine z_top (b := pC σ k % 1024 + 1024 * 3) rfl ?_
              refine l_ast hx hb hK hRH_16 hM hSH_16 (fun _ z => z) 3 (by decide) (by show 0 ≤ k ∧ k < ((10 : Nat) : Int); omega) dL_looks_105 (fun H_19 locsH_19 hRH_19 hzH_19 hoH_19 hSH_19 => ?_)
              have hfi : zFind σ k = i := zFind_is hF (by omega) hok hd
              exact W.vret hx hb hr (z_endA (post := fun τ' => Rl τ' (zLook σ k)) (τ' := (zup (zup (zup (zup τ 5 k (-1)) 3 k (pC σ k % 1024 + 1024 * 1)) 5 k i) 3 k (pC σ k % 1024 + 1024 * 3))) (Rl_look hT hI hB hk (by intro t i hq; repeat (first | exact rfl | rw [zup_e2 (by omega)])) (x := 3) (by rw [zup_s]) (by rw [zup_t (by decide), zup_s, hfi]) (by rw [hfi, if_neg (by omega)]; first | rw [if_pos (by omega)] | rw [if_neg (by omega)])) hRH_19 (hzH_19.trans (hzH_16.trans (hzH_12.trans (hzH_11.trans rfl)))) hSH_19) hSH_19.2.2 dL_looks_106
          · have hno : ¬ zOk σ k i := fun z => c_15 ((zwhy_lk0 i).mpr z)
            refine lv_goto (tgt := 107) hx hb dL_looks_70 (by decide) ?_
            refine z_iinc (lv' := [(7, .int (zI (i + 1))), (6, .int (zI (σ 1 0))), (0, .int (zI k)), (1, .ref (la 0)), (2, .ref (la 1)), (3, .ref (la 3)), (4, .ref (la 4)), (5, .ref (la 5))]) hx hb dL_looks_107 hl (k := 7) rfl (by decide) rfl (fun ls hl => ?_)
            refine lv_goto (tgt := 45) hx hb dL_looks_110 (by decide) ?_
            exact wo_hL _ _ _ _ _ (ih_hL (i + 1) ls (by exact fun o a b => if e9 : o = i then by rw [e9]; exact hno else hd o a (by omega)) (by omega) (by omega) (lv_sub hl [1, 2, 3, 4, 5, 6, 7, 0] rfl))
    exact wo_hL _ _ _ _ _ (hL _ (σ 1 0) ls (by intro m2 a b; omega) (by omega) (Nat.lt_succ_self _) (lv_sub hl [1, 2, 3, 4, 5, 6, 7, 0] rfl))
