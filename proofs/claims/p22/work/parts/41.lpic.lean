/-! the law's own rows: six arrays of ints (g, s, p, c, w, t), as a table of its own -/
def laN (t : Nat) : Nat := match t with | 0 => 6 | 1 => 6 | 2 => 4 | _ => 10
theorem laN_r (t : Nat) : laN t ≤ 10 := by unfold laN; split <;> omega
def RA (D : va_G) (cI : ClassId) (la : Nat → Nat) (τ : zT) (H : Heap) : Prop := ∀ t, t < 6 → va_at D vwCl (la t, .inl (cI, laN t, .inl (fun j => zI (τ t j)))) H
def LA (la : Nat → Nat) : Prop := ∀ t u, t < 6 → u < 6 → la t = la u → t = u
def AL (la : Nat → Nat) : Nat → Prop := fun q => ∃ t, t < 6 ∧ q = la t
theorem RA.kept {D : va_G} {cI : ClassId} {la : Nat → Nat} {τ : zT} {H H1 : Heap} (h : RA D cI la τ H) (hq : ∀ q, AL la q → H1[q]? = H[q]?) : RA D cI la τ H1 := fun t ht => (h t ht).kept (hq _ ⟨t, ht, rfl⟩)
theorem RA.lt {D : va_G} {cI : ClassId} {la : Nat → Nat} {τ : zT} {H : Heap} (h : RA D cI la τ H) {q : Nat} (hq : AL la q) : q < H.size := by
  obtain ⟨t, ht, rfl⟩ := hq
  exact z_lt (h t ht)
section LR
variable {p : Program} {l : Launch} {e : Env} {R : Room} {s : State} {m : MethodId} {args : Array Value} {below : List Frame} {meth : Method} {c : Code} {H : Heap} {locs : List Loc} {cells slots : Nat} {Q : State → Prop}
variable {cc : ByteArray} {pc : Nat} {ls : Array Slot} {rest : List Value} {D : va_G} {cI cO cL : ClassId} {la : Nat → Nat} {τ : zT} {H0 : Heap} {A : Nat → Prop}
theorem l_ald (hexec : p.tables.exec = Jvm.exec) (hb : c.code = cc) (hK : zKK D cI cO cL s) (hR : RA D cI la τ H) (t : Nat) (ht : t < 6) {i : Int} (h : 0 ≤ i ∧ i < laN t) (hdg : decode cc pc = .ok (.iaload, 1))
    (kk : W p l e R s m args below meth c H locs cells slots Q (F0 m (pc + 1) ls (.int (zI (τ t i)) :: rest))) : W p l e R s m args below meth c H locs cells slots Q (F0 m pc ls (.int (zI i) :: .ref (la t) :: rest)) := by
  have hl := laN_r t
  refine z_iald hexec hb hK 0 (hR t ht) rfl (by omega) hdg ?_
  rw [show ((i.toNat : Nat) : Int) = i by omega]
  exact kk
theorem l_ast (hexec : p.tables.exec = Jvm.exec) (hb : c.code = cc) (hK : zKK D cI cO cL s) (hR : RA D cI la τ H) (hM : LA la) (hS : va_S A H0 H locs) (hA : ∀ q, AL la q → A q) (t : Nat) (ht : t < 6) {i v : Int} (h : 0 ≤ i ∧ i < laN t) (hdg : decode cc pc = .ok (.iastore, 1))
    (kk : ∀ (H1 : Heap) (locs1 : List Loc), RA D cI la (zup τ t i v) H1 → H1.size = H.size → (∀ q : Nat, ¬ AL la q → H1[q]? = H[q]?) → va_S A H0 H1 locs1 → W p l e R s m args below meth c H1 locs1 cells slots Q (F0 m (pc + 1) ls rest)) : W p l e R s m args below meth c H locs cells slots Q (F0 m pc ls (.int (zI v) :: .int (zI i) :: .ref (la t) :: rest)) := by
  have hl := laN_r t
  refine z_iast hexec hb hK 0 (hR t ht) rfl (hA _ ⟨t, ht, rfl⟩) hS (by omega) hdg (fun H1 locs1 ha hz hq hS1 => kk H1 locs1 (fun u hu => ?_) hz (fun q hn => hq q (fun z => hn ⟨t, ht, z⟩)) hS1)
  by_cases hut : u = t
  · subst hut
    have e : (fun j : Nat => zI (zup τ u i v u (j : Int))) = upd (fun j : Nat => zI (τ u (j : Int))) i.toNat (zI v) := by
      funext j
      by_cases hj : j = i.toNat
      · rw [hj, show ((i.toNat : Nat) : Int) = i by omega, zup_s]; simp [upd]
      · rw [zup_i (by omega)]; simp [upd, hj]
    rw [e]
    exact ha
  · have e : (fun j : Nat => zI (zup τ t i v u (j : Int))) = (fun j : Nat => zI (τ u (j : Int))) := by
      funext j
      rw [zup_t hut]
    rw [e]
    exact (hR u hu).kept (hq _ (fun q => hut (hM u t hu ht q)))
/-- a number without a name gets one -/
theorem z_nm {x : Int32} (k : ∀ z : Int, -2147483648 ≤ z ∧ z < 2147483648 → W p l e R s m args below meth c H locs cells slots Q (F0 m pc ls (.int (zI z) :: rest))) : W p l e R s m args below meth c H locs cells slots Q (F0 m pc ls (.int x :: rest)) := by
  obtain ⟨z, h1, h2⟩ := zI_ex x
  rw [h1]
  exact k z h2
/-- the same number twice -/
theorem z_same_ne (hexec : p.tables.exec = Jvm.exec) (hb : c.code = cc) {x : Int32} {off : Int} {tgt : Nat} (hdg : decode cc pc = .ok (.if_icmp .ne off, 3)) (ht : (pc : Int) + off = (tgt : Int)) (k : W p l e R s m args below meth c H locs cells slots Q (F0 m (pc + 3) ls rest)) : W p l e R s m args below meth c H locs cells slots Q (F0 m pc ls (.int x :: .int x :: rest)) := lv_icmp_ne hexec hb hdg ht (fun q => absurd rfl q) (fun _ => k)
theorem z_same_eq (hexec : p.tables.exec = Jvm.exec) (hb : c.code = cc) {x : Int32} {off : Int} {tgt : Nat} (hdg : decode cc pc = .ok (.if_icmp .eq off, 3)) (ht : (pc : Int) + off = (tgt : Int)) (k : W p l e R s m args below meth c H locs cells slots Q (F0 m tgt ls rest)) : W p l e R s m args below meth c H locs cells slots Q (F0 m pc ls (.int x :: .int x :: rest)) := lv_icmp_eq hexec hb hdg ht (fun _ => k) (fun q => absurd rfl q)
/-- bits of small numbers -/
theorem l_and (hexec : p.tables.exec = Jvm.exec) (hb : c.code = cc) {a : Int} (k : Nat) {n : Int} (hn : (zI n).toBitVec.toNat = 2 ^ k - 1) (hdg : decode cc pc = .ok (.iand, 1)) (h : 0 ≤ a ∧ a < 2147483648) (kk : W p l e R s m args below meth c H locs cells slots Q (F0 m (pc + 1) ls (.int (zI (a % ((2 ^ k : Nat) : Int))) :: rest))) : W p l e R s m args below meth c H locs cells slots Q (F0 m pc ls (.int (zI n) :: .int (zI a) :: rest)) := by
  refine lv_iand hexec hb hdg ?_
  obtain ⟨q, rfl⟩ := Int.eq_ofNat_of_zero_le h.1
  rw [show zI (q : Int) = nI q from (zI_nat q).symm, pk_andN (n := q) (by omega) k hn, show nI (q % 2 ^ k) = zI ((q % 2 ^ k : Nat) : Int) from zI_nat _]
  rw [show ((q : Int) % ((2 ^ k : Nat) : Int)) = ((q % 2 ^ k : Nat) : Int) from (Int.natCast_emod q (2 ^ k)).symm] at kk
  exact kk
theorem l_shr (hexec : p.tables.exec = Jvm.exec) (hb : c.code = cc) {a : Int} (n : Nat) {k : Int} (hk : k = n ∧ n < 31) (hdg : decode cc pc = .ok (.ishr, 1)) (h : 0 ≤ a ∧ a < 2147483648) (kk : W p l e R s m args below meth c H locs cells slots Q (F0 m (pc + 1) ls (.int (zI (a / 2 ^ n)) :: rest))) : W p l e R s m args below meth c H locs cells slots Q (F0 m pc ls (.int (zI k) :: .int (zI a) :: rest)) := by
  refine lv_ishr hexec hb hdg ?_
  rw [zI_shr (n := n) h hk]
  exact kk
theorem zI_shl {a : Int} {k : Nat} {n : Int} (hn : ((zI n).toBitVec.smod 32).toNat = k) (h : 0 ≤ a ∧ a * ((2 ^ k : Nat) : Int) < 4294967296) : zI a <<< zI n = zI (a * ((2 ^ k : Nat) : Int)) := by
  obtain ⟨q, rfl⟩ := Int.eq_ofNat_of_zero_le h.1
  rw [show zI (q : Int) = nI q from (zI_nat q).symm, pk_shlN (n := q) (zI n) k hn (by have := h.2; rw [← Int.natCast_mul] at this; omega), show nI (q * 2 ^ k) = zI ((q * 2 ^ k : Nat) : Int) from zI_nat _, Int.natCast_mul]
theorem zI_and31 {n : Int} (h : 0 ≤ n ∧ n < 32) : zI n &&& 31 = zI n := by
  obtain ⟨q, rfl⟩ := Int.eq_ofNat_of_zero_le h.1
  rw [show zI (q : Int) = nI q from (zI_nat q).symm, pk_andN (n := q) (by omega) 5 (by decide +kernel), Nat.mod_eq_of_lt (by omega)]
theorem l_shl (hexec : p.tables.exec = Jvm.exec) (hb : c.code = cc) {a : Int} (k : Nat) {n : Int} (hn : ((zI n).toBitVec.smod 32).toNat = k) (hr : 0 ≤ n ∧ n < 32) (hdg : decode cc pc = .ok (.ishl, 1)) (h : 0 ≤ a ∧ a * ((2 ^ k : Nat) : Int) < 4294967296) (kk : W p l e R s m args below meth c H locs cells slots Q (F0 m (pc + 1) ls (.int (zI (a * ((2 ^ k : Nat) : Int))) :: rest))) : W p l e R s m args below meth c H locs cells slots Q (F0 m pc ls (.int (zI n) :: .int (zI a) :: rest)) := by
  refine lv_ishl hexec hb hdg ?_
  rw [zI_and31 hr, zI_shl hn h]
  exact kk
/-- bits that don't meet -/
theorem zI_or {x y : Int} (k : Nat) (hk : k < 31) (h : 0 ≤ x ∧ x < ((2 ^ k : Nat) : Int)) (hy : 0 ≤ y ∧ ((2 ^ k : Nat) : Int) * y < 2147483648 - 2 ^ 30) : zI x ||| zI (((2 ^ k : Nat) : Int) * y) = zI (x + ((2 ^ k : Nat) : Int) * y) := by
  obtain ⟨a, rfl⟩ := Int.eq_ofNat_of_zero_le h.1
  obtain ⟨b, rfl⟩ := Int.eq_ofNat_of_zero_le hy.1
  have h1 : a < 2 ^ k := by have := h.2; omega
  have h2 : 2 ^ k * b < 2 ^ 30 := by have := hy.2; rw [← Int.natCast_mul] at this; omega
  have h3 : 2 ^ k ≤ 2 ^ 30 := Nat.pow_le_pow_right (by decide) (by omega)
  rw [← Int.natCast_mul, ← Int.natCast_add, ← zI_nat, ← zI_nat, ← zI_nat]
  show nI a ||| nI (2 ^ k * b) = nI (a + 2 ^ k * b)
  apply Int32.toBitVec_inj.mp
  apply BitVec.eq_of_toNat_eq
  rw [Int32.toBitVec_or, BitVec.toNat_or, pk_tn (by omega), pk_tn (by omega), pk_tn (by omega), Nat.add_comm a, Nat.two_pow_add_eq_or_of_lt h1 b, Nat.or_comm]
theorem l_or (hexec : p.tables.exec = Jvm.exec) (hb : c.code = cc) {x z : Int} (k : Nat) (y : Int) (hk : k < 31) (hz : z = ((2 ^ k : Nat) : Int) * y) (h : 0 ≤ x ∧ x < ((2 ^ k : Nat) : Int)) (hy : 0 ≤ y ∧ ((2 ^ k : Nat) : Int) * y < 2147483648 - 2 ^ 30) (hdg : decode cc pc = .ok (.ior, 1)) (kk : W p l e R s m args below meth c H locs cells slots Q (F0 m (pc + 1) ls (.int (zI (x + ((2 ^ k : Nat) : Int) * y)) :: rest))) : W p l e R s m args below meth c H locs cells slots Q (F0 m pc ls (.int (zI z) :: .int (zI x) :: rest)) := by
  subst hz
  refine lv_ior hexec hb hdg ?_
  rw [zI_or k hk h hy]
  exact kk
end LR
/-! what the law packs -/
def pS (σ : zT) (i : Int) : Int := σ 6 i + 512 * σ 8 i + 65536 * σ 9 i
def pC (σ : zT) (i : Int) : Int := σ 15 i + 8 * σ 17 i + 64 * (σ 18 i + 1) + 1024 * σ 19 i
def zB (σ : zT) : Prop := σ 5 0 ≤ 6 ∧ σ 11 0 ≤ 4 ∧ σ 14 0 ≤ 10
/-- the law's rows say what the table says -/
def Rl (τ σ : zT) : Prop := (τ 0 0 = σ 1 0 ∧ τ 0 1 = σ 2 0 ∧ τ 0 2 = σ 3 0 ∧ τ 0 3 = σ 4 0 ∧ τ 0 4 = σ 14 0 ∧ τ 0 5 = σ 21 0) ∧ (∀ i, 0 ≤ i → i < σ 5 0 → τ 1 i = pS σ i) ∧ (∀ i, 0 ≤ i → i < σ 11 0 → τ 2 i = σ 13 i) ∧ ∀ i, 0 ≤ i → i < σ 14 0 → τ 3 i = pC σ i ∧ τ 4 i = σ 16 i ∧ τ 5 i = σ 20 i
section LP
variable {τ σ : zT} {i : Int}
theorem Rl.g0 (h : Rl τ σ) : τ 0 0 = σ 1 0 := h.1.1
theorem Rl.g1 (h : Rl τ σ) : τ 0 1 = σ 2 0 := h.1.2.1
theorem Rl.g2 (h : Rl τ σ) : τ 0 2 = σ 3 0 := h.1.2.2.1
theorem Rl.g3 (h : Rl τ σ) : τ 0 3 = σ 4 0 := h.1.2.2.2.1
theorem Rl.g4 (h : Rl τ σ) : τ 0 4 = σ 14 0 := h.1.2.2.2.2.1
theorem Rl.g5 (h : Rl τ σ) : τ 0 5 = σ 21 0 := h.1.2.2.2.2.2
theorem Rl.s (h : Rl τ σ) (hi : 0 ≤ i ∧ i < σ 5 0) : τ 1 i = pS σ i := h.2.1 i hi.1 hi.2
theorem Rl.p (h : Rl τ σ) (hi : 0 ≤ i ∧ i < σ 11 0) : τ 2 i = σ 13 i := h.2.2.1 i hi.1 hi.2
theorem Rl.c (h : Rl τ σ) (hi : 0 ≤ i ∧ i < σ 14 0) : τ 3 i = pC σ i := (h.2.2.2 i hi.1 hi.2).1
theorem Rl.w (h : Rl τ σ) (hi : 0 ≤ i ∧ i < σ 14 0) : τ 4 i = σ 16 i := (h.2.2.2 i hi.1 hi.2).2.1
theorem Rl.t (h : Rl τ σ) (hi : 0 ≤ i ∧ i < σ 14 0) : τ 5 i = σ 20 i := (h.2.2.2 i hi.1 hi.2).2.2
theorem pS_x (hI : zInv σ) (hi : 0 ≤ i ∧ i < σ 5 0) : (0 ≤ pS σ i ∧ pS σ i < 2147483648) ∧ pS σ i % 512 = σ 6 i ∧ pS σ i / 512 % 128 = σ 8 i ∧ pS σ i / 65536 = σ 9 i := by
  have g := hI.s hi
  unfold pS
  omega
theorem pC_x (hI : zInv σ) (hB : zB σ) (hi : 0 ≤ i ∧ i < σ 14 0) : (0 ≤ pC σ i ∧ pC σ i < 8192) ∧ pC σ i % 8 = σ 15 i ∧ pC σ i / 8 % 8 = σ 17 i ∧ pC σ i / 64 % 16 - 1 = σ 18 i ∧ pC σ i / 1024 = σ 19 i := by
  have g := hI.c hi
  have b : σ 5 0 ≤ 6 ∧ σ 11 0 ≤ 4 ∧ σ 14 0 ≤ 10 := hB
  unfold pC
  omega
theorem pS_r (hI : zInv σ) (hi : 0 ≤ i ∧ i < σ 5 0) : 0 ≤ pS σ i ∧ pS σ i < 2147483648 := (pS_x hI hi).1
theorem pC_r (hI : zInv σ) (hB : zB σ) (hi : 0 ≤ i ∧ i < σ 14 0) : 0 ≤ pC σ i ∧ pC σ i < 2147483648 := by have := (pC_x hI hB hi).1; omega
theorem pS_d (hI : zInv σ) (hi : 0 ≤ i ∧ i < σ 5 0) : pS σ i % 512 = σ 6 i := (pS_x hI hi).2.1
theorem pS_t (hI : zInv σ) (hi : 0 ≤ i ∧ i < σ 5 0) : pS σ i / 512 % 128 = σ 8 i := (pS_x hI hi).2.2.1
theorem pS_n (hI : zInv σ) (hi : 0 ≤ i ∧ i < σ 5 0) : pS σ i / 65536 = σ 9 i := (pS_x hI hi).2.2.2
theorem pC_s (hI : zInv σ) (hB : zB σ) (hi : 0 ≤ i ∧ i < σ 14 0) : pC σ i % 8 = σ 15 i := (pC_x hI hB hi).2.1
theorem pC_i (hI : zInv σ) (hB : zB σ) (hi : 0 ≤ i ∧ i < σ 14 0) : pC σ i / 8 % 8 = σ 17 i := (pC_x hI hB hi).2.2.1
theorem pC_p (hI : zInv σ) (hB : zB σ) (hi : 0 ≤ i ∧ i < σ 14 0) : pC σ i / 64 % 16 - 1 = σ 18 i := (pC_x hI hB hi).2.2.2.1
theorem pC_t (hI : zInv σ) (hB : zB σ) (hi : 0 ≤ i ∧ i < σ 14 0) : pC σ i / 1024 = σ 19 i := (pC_x hI hB hi).2.2.2.2
/-- which of four reasons -/
theorem zwhy_1 {k t : Int} (h : ¬ zTideOk σ (σ 15 k) t) : zan_why σ k t = 1 := by unfold zan_why; rw [zIf_t h]
theorem zwhy_2 {k t : Int} (h1 : zTideOk σ (σ 15 k) t) (h : ¬ zRestOk σ k t) : zan_why σ k t = 2 := by unfold zan_why; rw [zIf_f (fun z => z h1), zIf_t h]
theorem zwhy_3 {k t : Int} (h1 : zTideOk σ (σ 15 k) t) (h2 : zRestOk σ k t) (h : ¬ zTugOk σ k t) : zan_why σ k t = 3 := by unfold zan_why; rw [zIf_f (fun z => z h1), zIf_f (fun z => z h2), zIf_t h]
theorem zwhy_4 {k t : Int} (h1 : zTideOk σ (σ 15 k) t) (h2 : zRestOk σ k t) (h3 : zTugOk σ k t) (h : ¬ zChanOk σ k t) : zan_why σ k t = 4 := by unfold zan_why; rw [zIf_f (fun z => z h1), zIf_f (fun z => z h2), zIf_f (fun z => z h3), zIf_f h]
theorem zwhy_0 {k t : Int} (h1 : zTideOk σ (σ 15 k) t) (h2 : zRestOk σ k t) (h3 : zTugOk σ k t) (h4 : zChanOk σ k t) : zan_why σ k t = 0 := by unfold zan_why; rw [zIf_f (fun z => z h1), zIf_f (fun z => z h2), zIf_f (fun z => z h3), zIf_t h4]
theorem zwhy_r (k t : Int) : 0 ≤ zan_why σ k t ∧ zan_why σ k t ≤ 4 := by
  by_cases h1 : zTideOk σ (σ 15 k) t
  · by_cases h2 : zRestOk σ k t
    · by_cases h3 : zTugOk σ k t
      · by_cases h4 : zChanOk σ k t
        · rw [zwhy_0 h1 h2 h3 h4]; omega
        · rw [zwhy_4 h1 h2 h3 h4]; omega
      · rw [zwhy_3 h1 h2 h3]; omega
    · rw [zwhy_2 h1 h2]; omega
  · rw [zwhy_1 h1]; omega
theorem zwhy_ok (k t : Int) : zan_why σ k t = 0 ↔ zOk σ k t := by
  constructor
  · intro h
    by_cases h1 : zTideOk σ (σ 15 k) t
    · by_cases h2 : zRestOk σ k t
      · by_cases h3 : zTugOk σ k t
        · by_cases h4 : zChanOk σ k t
          · exact ⟨h1, h4, h2, h3⟩
          · rw [zwhy_4 h1 h2 h3 h4] at h; omega
        · rw [zwhy_3 h1 h2 h3] at h; omega
      · rw [zwhy_2 h1 h2] at h; omega
    · rw [zwhy_1 h1] at h; omega
  · intro h
    exact zwhy_0 h.1 h.2.2.1 h.2.2.2 h.2.1
end LP
