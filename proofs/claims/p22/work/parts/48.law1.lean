/-! the law's rows, more -/
section LM
variable {p : Program} {l : Launch} {e : Env} {R : Room} {s : State} {m : MethodId} {args : Array Value} {below : List Frame} {meth : Method} {c : Code} {H : Heap} {locs : List Loc} {cells slots : Nat} {Q : State → Prop} {cc : ByteArray} {pc : Nat} {ls : Array Slot} {rest : List Value}
theorem zDivC {σ : zT} {k w : Int} (hI : zInv σ) (hB : zB σ) (hk : 0 ≤ k ∧ k < σ 14 0) (hw : 0 ≤ w ∧ w ≤ 2) : 0 ≤ pC σ k / (8 * zPw w) ∧ pC σ k / (8 * zPw w) < 2147483648 := by
  have r := (pC_x hI hB hk).1
  generalize pC σ k = x at r
  unfold zPw
  split
  · omega
  · split <;> omega
theorem l_or2 (hexec : p.tables.exec = Jvm.exec) (hb : c.code = cc) {w q : Int} (hw : w = 2) (hq : 0 ≤ q ∧ q < 4) (hdg : decode cc pc = .ok (.ior, 1)) (kk : W p l e R s m args below meth c H locs cells slots Q (F0 m (pc + 1) ls (.int (zI (32 + 64 * (q + 1))) :: rest))) : W p l e R s m args below meth c H locs cells slots Q (F0 m pc ls (.int (zI ((q + 1) * 64)) :: .int (zI (8 * zPw w)) :: rest)) := by
  subst hw
  refine lv_ior hexec hb hdg ?_
  have e := zI_or (x := 8 * zPw 2) (y := q + 1) 6 (by decide) (by decide) (show 0 ≤ q + 1 ∧ (64 : Int) * (q + 1) < 2147483648 - 2 ^ 30 by omega)
  rw [show (q + 1) * 64 = ((2 ^ 6 : Nat) : Int) * (q + 1) by rw [Int.mul_comm]; rfl, e]
  exact kk
theorem l_orP (hexec : p.tables.exec = Jvm.exec) (hb : c.code = cc) {x q : Int} (hx : 0 ≤ x ∧ x < 32) (hq : 0 ≤ q ∧ q < 4) (hdg : decode cc pc = .ok (.ior, 1)) (kk : W p l e R s m args below meth c H locs cells slots Q (F0 m (pc + 1) ls (.int (zI (x + (32 + 64 * (q + 1)))) :: rest))) : W p l e R s m args below meth c H locs cells slots Q (F0 m pc ls (.int (zI (32 + 64 * (q + 1))) :: .int (zI x) :: rest)) := by
  refine lv_ior hexec hb hdg ?_
  have e := zI_or (x := x) (y := 1 + 2 * (q + 1)) 5 (by decide) hx (show 0 ≤ 1 + 2 * (q + 1) ∧ (32 : Int) * (1 + 2 * (q + 1)) < 2147483648 - 2 ^ 30 by omega)
  have e2 : 32 + 64 * (q + 1) = ((2 ^ 5 : Nat) : Int) * (1 + 2 * (q + 1)) := by show _ = (32 : Int) * _; omega
  rw [e2, e, ← e2]
  exact kk
theorem zC32 {σ : zT} {k : Int} (hI : zInv σ) (hB : zB σ) (hk : 0 ≤ k ∧ k < σ 14 0) (h19 : σ 19 k = 0) (h18 : σ 18 k = -1) (hb : zBit (σ 17 k) 2 = 0) : 0 ≤ pC σ k ∧ pC σ k < 32 := by
  have g := hI.c hk
  have b : σ 5 0 ≤ 6 ∧ σ 11 0 ≤ 4 ∧ σ 14 0 ≤ 10 := hB
  unfold zBit at hb
  simp at hb
  unfold pC
  omega
theorem zC1024 {σ : zT} {k n : Int} (hI : zInv σ) (hB : zB σ) (hk : 0 ≤ k ∧ k < σ 14 0) (h19 : σ 19 k < n) : 0 ≤ pC σ k ∧ pC σ k < 1024 * n := by
  have g := (pC_x hI hB hk)
  omega
theorem zSetX {σ : zT} {k w q x : Int} (hI : zInv σ) (hB : zB σ) (hk : 0 ≤ k ∧ k < σ 14 0) (hw : 0 ≤ w ∧ w ≤ 2) (hb : zBit (σ 17 k) w = 0) (hq : 0 ≤ q ∧ q < 4) (hx : x = if w = 2 then pC σ k + (32 + 64 * (q + 1)) else pC σ k + 8 * zPw w) : x / 8 % 8 = zSet (σ 17 k) w := by
  have g := (pC_x hI hB hk)
  have f := hI.c hk
  have z := zSet_r f.2.2.1 hw
  rw [zSetC hb] at z ⊢
  by_cases w2 : w = 2
  · rw [if_pos w2] at hx
    rw [w2, show zPw 2 = 4 from rfl] at z ⊢
    omega
  · rw [if_neg w2] at hx
    omega
theorem l_m63 (hexec : p.tables.exec = Jvm.exec) (hb : c.code = cc) {w : Int} (hw : w = 2) (hdg : decode cc pc = .ok (.iand, 1)) (kk : W p l e R s m args below meth c H locs cells slots Q (F0 m (pc + 1) ls (.int (zI 31) :: rest))) : W p l e R s m args below meth c H locs cells slots Q (F0 m pc ls (.int (zI 63) :: .int (zI (1023 - 8 * zPw w)) :: rest)) := by
  subst hw
  refine lv_iand hexec hb hdg ?_
  rw [show zI (1023 - 8 * zPw 2) &&& zI 63 = zI 31 by decide +kernel]
  exact kk
theorem l_m1023 (hexec : p.tables.exec = Jvm.exec) (hb : c.code = cc) {w : Int} (hw : 0 ≤ w ∧ w ≤ 2) (hdg : decode cc pc = .ok (.iand, 1)) (kk : W p l e R s m args below meth c H locs cells slots Q (F0 m (pc + 1) ls (.int (zI (1023 - 8 * zPw w)) :: rest))) : W p l e R s m args below meth c H locs cells slots Q (F0 m pc ls (.int (zI 1023) :: .int (zI (1023 - 8 * zPw w)) :: rest)) := by
  refine lv_iand hexec hb hdg ?_
  have e : zI (1023 - 8 * zPw w) &&& zI 1023 = zI (1023 - 8 * zPw w) := zSmall (P := fun _ w => zI (1023 - 8 * zPw w) &&& zI 1023 = zI (1023 - 8 * zPw w)) (by decide +kernel) (x := 0) (by omega) hw
  rw [e]
  exact kk
end LM
theorem Rl_moved {τ ρ : zT} (h : Rl τ ρ) {x y : Int} (hx : x = y) : Rl (zup τ 0 5 x) (zup ρ 21 0 y) := by
  refine h.glob (fun t i ht => zup_t ht) (fun t i _ _ _ h4 => zup_t h4) ⟨?_, ?_, ?_, ?_, ?_, ?_⟩
  · rw [zup_i (by decide), zup_t (by decide)]; exact h.g0
  · rw [zup_i (by decide), zup_t (by decide)]; exact h.g1
  · rw [zup_i (by decide), zup_t (by decide)]; exact h.g2
  · rw [zup_i (by decide), zup_t (by decide)]; exact h.g3
  · rw [zup_i (by decide), zup_t (by decide)]; exact h.g4
  · rw [zup_s, zup_s]; exact hx
theorem Rl_tide {τ σ : zT} (h : Rl τ σ) (d r : Int) : Rl (zup (zup τ 0 1 d) 0 2 r) (zst_tide σ d r) := by
  unfold zst_tide
  refine h.glob (fun t i ht => by rw [zup_t ht, zup_t ht]) (fun t i h1 _ _ _ => by rw [zup_t (by omega), zup_t (by omega)]) ⟨?_, ?_, ?_, ?_, ?_, ?_⟩
  · rw [zup_i (by decide), zup_i (by decide), zup_t (by decide), zup_t (by decide)]; exact h.g0
  · rw [zup_i (by decide), zup_s, zup_t (by decide), zup_s]
  · rw [zup_s, zup_s]
  · rw [zup_i (by decide), zup_i (by decide), zup_t (by decide), zup_t (by decide)]; exact h.g3
  · rw [zup_i (by decide), zup_i (by decide), zup_t (by decide), zup_t (by decide)]; exact h.g4
  · rw [zup_i (by decide), zup_i (by decide), zup_t (by decide), zup_t (by decide)]; exact h.g5
theorem Rl_tugs {τ σ : zT} (h : Rl τ σ) (n : Int) : Rl (zup τ 0 3 n) (zst_tugs σ n) := by
  unfold zst_tugs
  refine h.glob (fun t i ht => zup_t ht) (fun t i h1 _ _ _ => zup_t (by omega)) ⟨?_, ?_, ?_, ?_, ?_, ?_⟩
  · rw [zup_i (by decide), zup_t (by decide)]; exact h.g0
  · rw [zup_i (by decide), zup_t (by decide)]; exact h.g1
  · rw [zup_i (by decide), zup_t (by decide)]; exact h.g2
  · rw [zup_s, zup_s]
  · rw [zup_i (by decide), zup_t (by decide)]; exact h.g4
  · rw [zup_i (by decide), zup_t (by decide)]; exact h.g5
theorem zB_drops {σ : zT} (h : zB σ) (n : Nat) : zB (zDrops σ n).1 := by
  unfold zB
  rw [zDrops_o (by decide) (by decide), zDrops_o (by decide) (by decide), zDrops_o (by decide) (by decide)]
  exact h
theorem pC_adv (σ : zT) (i t : Int) : pC (zAdv σ i t) i = pC σ i := by
  show σ 15 i + 8 * σ 17 i + 64 * (σ 18 i + 1) + 1024 * zSt σ i t i = _
  rw [zSt_out (Int.le_refl i)]
  rfl
theorem zNew_add {σ ρ : zT} {n : Int} (hI : zInv σ) (hJ : zInv2 σ) (hn : 0 ≤ n) (hρ : zAdv σ (σ 14 0) (σ 1 0 + n) = ρ) {i : Int} (hi : i = σ 14 0) : zSum (fun c => zNewV σ (σ 1 0 + n) c True 1) (σ 14 0).toNat + zSum (fun c => zNewV ρ (ρ 1 0 + 1) c True 1) i.toNat = zSum (fun c => zNewV σ (σ 1 0 + (n + 1)) c True 1) (σ 14 0).toNat := by
  have f0 := hI.r
  have e1 : ρ 1 0 = σ 1 0 + n := by rw [← hρ]; rfl
  rw [hi, e1, show σ 1 0 + n + 1 = σ 1 0 + (n + 1) by omega, ← hρ]
  exact zSum_add (fun c a b => zNewV_c hI hJ True ⟨by omega, by omega⟩ ⟨a, by omega⟩)
theorem Rl_minute {τ σ ρ : zT} {n i : Int} (hI : zInv σ) (hJ : zInv2 σ) (hn : 0 ≤ n) (hρ : zAdv σ (σ 14 0) (σ 1 0 + n) = ρ) (hi : i = σ 14 0) (h : Rl τ (zAdv ρ i (ρ 1 0 + 1))) : Rl τ (zAdv σ (σ 14 0) (σ 1 0 + (n + 1))) := by
  have e1 : ρ 1 0 = σ 1 0 + n := by rw [← hρ]; rfl
  refine h.eqS (fun t j _ _ _ => ?_)
  rw [hi, e1, show σ 1 0 + n + 1 = σ 1 0 + (n + 1) by omega, ← hρ]
  exact (zAdv_c hI hJ ⟨by omega, by omega⟩ t j).symm
theorem zB_adv {σ : zT} (h : zB σ) (n t : Int) : zB (zAdv σ n t) := h
