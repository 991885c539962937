/-! plain facts: minutes that go by -/
/-- state, slot and minute belong together -/
def zRd (σ : zT) (i : Int) : Prop := (σ 19 i = 2 → σ 1 0 < σ 20 i) ∧ (σ 19 i = 3 → σ 20 i ≤ σ 1 0 ∧ σ 1 0 < zOv σ i) ∧ (σ 19 i = 4 → zOv σ i ≤ σ 1 0) ∧ (1 ≤ σ 19 i ↔ σ 17 i = 7) ∧ (zBit (σ 17 i) 2 = 1 ↔ 0 ≤ σ 18 i)
def zInv2 (σ : zT) : Prop := ∀ i, 0 ≤ i → i < σ 14 0 → zRd σ i
theorem zInv2.c {σ : zT} (h : zInv2 σ) {i : Int} (h1 : 0 ≤ i ∧ i < σ 14 0) : (σ 19 i = 2 → σ 1 0 < σ 20 i) ∧ (σ 19 i = 3 → σ 20 i ≤ σ 1 0 ∧ σ 1 0 < σ 20 i + σ 8 (σ 15 i)) ∧ (σ 19 i = 4 → σ 20 i + σ 8 (σ 15 i) ≤ σ 1 0) ∧ (1 ≤ σ 19 i ↔ σ 17 i = 7) ∧ (zBit (σ 17 i) 2 = 1 ↔ 0 ≤ σ 18 i) := h i h1.1 h1.2
theorem zInv2.p {σ : zT} (h : zInv2 σ) {i : Int} (h1 : 0 ≤ i ∧ i < σ 14 0) (h2 : 1 ≤ σ 19 i) : 0 ≤ σ 18 i := by
  have g := h.c h1
  have e : σ 17 i = 7 := g.2.2.2.1.mp h2
  refine g.2.2.2.2.mp ?_
  rw [e]; rfl
theorem zSt_i {σ : zT} {i t : Int} (hi : 0 ≤ i) : zSt σ (i + 1) t i = if σ 19 i = 2 ∨ σ 19 i = 3 then (if σ 20 i + σ 8 (σ 15 i) ≤ t then 4 else if σ 20 i ≤ t then 3 else 2) else σ 19 i := by
  unfold zSt zOv zTk
  by_cases h : σ 19 i = 2 ∨ σ 19 i = 3
  · rw [if_pos ⟨⟨hi, by omega⟩, h⟩, if_pos h]
  · rw [if_neg (fun q => h q.2), if_neg h]
theorem zSt_o {σ : zT} {n i t j : Int} (h : j < n ↔ j < i) : zSt σ n t j = zSt σ i t j := by
  unfold zSt
  by_cases q : (0 ≤ j ∧ j < i) ∧ (σ 19 j = 2 ∨ σ 19 j = 3)
  · rw [if_pos q, if_pos ⟨⟨q.1.1, h.mpr q.1.2⟩, q.2⟩]
  · rw [if_neg q, if_neg (fun z => q ⟨⟨z.1.1, h.mp z.1.2⟩, z.2⟩)]
theorem zSt_out {σ : zT} {n t j : Int} (h : n ≤ j) : zSt σ n t j = σ 19 j := by
  unfold zSt
  rw [if_neg (fun z => by omega)]
theorem zNewV_t {σ : zT} {t c v : Int} {P : Prop} (h : (σ 19 c = 2 ∨ σ 19 c = 3) ∧ σ 20 c + σ 8 (σ 15 c) ≤ t) (hP : P) : zNewV σ t c P v = v := if_pos ⟨h, hP⟩
theorem zNewV_f {σ : zT} {t c v : Int} {P : Prop} (h : ¬ ((σ 19 c = 2 ∨ σ 19 c = 3) ∧ σ 20 c + σ 8 (σ 15 c) ≤ t)) : zNewV σ t c P v = 0 := if_neg (fun q => h q.1)
theorem zNewV_p {σ : zT} {t c v : Int} {P : Prop} (h : ¬ P) : zNewV σ t c P v = 0 := if_neg (fun q => h q.2)
theorem zAdv_o {σ : zT} {n t : Int} {k : Nat} {j : Int} (h : k ≠ 1 ∧ k ≠ 19 ∧ k ≠ 10 ∧ k ≠ 30 ∧ k ≠ 31) : zAdv σ n t k j = σ k j := by
  unfold zAdv
  rw [if_neg h.1, if_neg h.2.1, if_neg h.2.2.1, if_neg h.2.2.2.1, if_neg h.2.2.2.2]
theorem zAdv_19 (σ : zT) (n t j : Int) : zAdv σ n t 19 j = zSt σ n t j := rfl
theorem zAdv_10 (σ : zT) (n t j : Int) : zAdv σ n t 10 j = σ 10 j + zSum (fun c => zNewV σ t c (σ 15 c = j) (zBill σ c)) n.toNat := rfl
theorem zAdv_10i (σ : zT) {n t j : Int} (hn : 0 ≤ n) : zAdv σ (n + 1) t 10 j = zAdv σ n t 10 j + zNewV σ t n (σ 15 n = j) (zBill σ n) := by
  rw [zAdv_10, zAdv_10, zSum_i _ hn, Int.add_assoc]
/-- the whole table by that minute -/
theorem zStW {σ : zT} (hI : zInv σ) (hJ : zInv2 σ) {t c : Int} (ht : σ 1 0 ≤ t) (h : 0 ≤ c ∧ c < σ 14 0) : (zSt σ (σ 14 0) t c = 2 ↔ σ 19 c = 2 ∧ t < σ 20 c) ∧ (zSt σ (σ 14 0) t c = 3 ↔ (σ 19 c = 2 ∨ σ 19 c = 3) ∧ σ 20 c ≤ t ∧ t < σ 20 c + σ 8 (σ 15 c)) ∧ (zSt σ (σ 14 0) t c = 4 ↔ σ 19 c = 4 ∨ ((σ 19 c = 2 ∨ σ 19 c = 3) ∧ σ 20 c + σ 8 (σ 15 c) ≤ t)) ∧ (zSt σ (σ 14 0) t c ≤ 1 → zSt σ (σ 14 0) t c = σ 19 c) ∧ (2 ≤ zSt σ (σ 14 0) t c ↔ 2 ≤ σ 19 c) ∧ (1 ≤ zSt σ (σ 14 0) t c ↔ 1 ≤ σ 19 c) ∧ 0 ≤ zSt σ (σ 14 0) t c ∧ zSt σ (σ 14 0) t c ≤ 4 := by
  have f := hI.c h
  have g := hJ.c h
  have s := hI.s (i := σ 15 c) (by omega)
  unfold zSt zOv zTk
  by_cases q : σ 19 c = 2 ∨ σ 19 c = 3
  · rw [if_pos ⟨h, q⟩]
    split
    · omega
    · split <;> omega
  · rw [if_neg (fun z => q z.2)]
    omega
theorem zInv_adv {σ : zT} (hI : zInv σ) (hJ : zInv2 σ) {t : Int} (ht : σ 1 0 ≤ t ∧ t ≤ 20000) : zInv (zAdv σ (σ 14 0) t) := by
  have f := hI.r
  refine ⟨⟨by show 0 ≤ t ∧ t ≤ 20000; omega, f.2⟩, hI.2.1, hI.2.2.1, fun i h1 h2 => ?_⟩
  have g := hI.c (i := i) ⟨h1, h2⟩
  have q := zStW hI hJ ht.1 (c := i) ⟨h1, h2⟩
  refine ⟨g.1, g.2.1, g.2.2.1, g.2.2.2.1, ?_⟩
  show (0 ≤ zSt σ (σ 14 0) t i ∧ zSt σ (σ 14 0) t i ≤ 4) ∧ (-1 ≤ σ 20 i ∧ σ 20 i ≤ 21440) ∧ (2 ≤ zSt σ (σ 14 0) t i ↔ 0 ≤ σ 20 i)
  omega
theorem zInv2_adv {σ : zT} (hI : zInv σ) (hJ : zInv2 σ) {t : Int} (ht : σ 1 0 ≤ t) : zInv2 (zAdv σ (σ 14 0) t) := by
  intro i h1 h2
  have g := hJ.c (i := i) ⟨h1, h2⟩
  have q := zStW hI hJ ht (c := i) ⟨h1, h2⟩
  show (zSt σ (σ 14 0) t i = 2 → t < σ 20 i) ∧ (zSt σ (σ 14 0) t i = 3 → σ 20 i ≤ t ∧ t < σ 20 i + σ 8 (σ 15 i)) ∧ (zSt σ (σ 14 0) t i = 4 → σ 20 i + σ 8 (σ 15 i) ≤ t) ∧ (1 ≤ zSt σ (σ 14 0) t i ↔ σ 17 i = 7) ∧ (zBit (σ 17 i) 2 = 1 ↔ 0 ≤ σ 18 i)
  refine ⟨by omega, by omega, by omega, by omega, g.2.2.2.2⟩
/-- newly done in two parts -/
theorem zNewV_c {σ : zT} (hI : zInv σ) (hJ : zInv2 σ) {t1 t2 c v : Int} (P : Prop) (ht : σ 1 0 ≤ t1 ∧ t1 ≤ t2) (h : 0 ≤ c ∧ c < σ 14 0) : zNewV σ t1 c P v + zNewV (zAdv σ (σ 14 0) t1) t2 c P v = zNewV σ t2 c P v := by
  have q := zStW hI hJ ht.1 h
  have s := hI.s (i := σ 15 c) (by have := hI.c h; omega)
  by_cases hP : P
  · by_cases a : (σ 19 c = 2 ∨ σ 19 c = 3) ∧ σ 20 c + σ 8 (σ 15 c) ≤ t1
    · rw [zNewV_t a hP, zNewV_t ⟨a.1, by omega⟩ hP, zNewV_f]
      · omega
      · show ¬ ((zSt σ (σ 14 0) t1 c = 2 ∨ zSt σ (σ 14 0) t1 c = 3) ∧ σ 20 c + σ 8 (σ 15 c) ≤ t2)
        omega
    · rw [zNewV_f a]
      by_cases d : (σ 19 c = 2 ∨ σ 19 c = 3) ∧ σ 20 c + σ 8 (σ 15 c) ≤ t2
      · rw [zNewV_t d hP, zNewV_t ?_ hP]
        · omega
        · show (zSt σ (σ 14 0) t1 c = 2 ∨ zSt σ (σ 14 0) t1 c = 3) ∧ σ 20 c + σ 8 (σ 15 c) ≤ t2
          omega
      · rw [zNewV_f d, zNewV_f]
        · omega
        · show ¬ ((zSt σ (σ 14 0) t1 c = 2 ∨ zSt σ (σ 14 0) t1 c = 3) ∧ σ 20 c + σ 8 (σ 15 c) ≤ t2)
          omega
  · rw [zNewV_p hP, zNewV_p hP, zNewV_p hP]; omega
theorem zSum_add {f g h : Int → Int} : ∀ {n : Nat}, (∀ k : Int, 0 ≤ k → k < n → f k + g k = h k) → zSum f n + zSum g n = zSum h n
  | 0, _ => rfl
  | n + 1, q => by
    have h1 := zSum_add (n := n) (fun k a b => q k a (by omega))
    have h2 := q n (by omega) (by omega)
    rw [zSum_s, zSum_s, zSum_s]; omega
theorem zAdv_c {σ : zT} (hI : zInv σ) (hJ : zInv2 σ) {t1 t2 : Int} (ht : σ 1 0 ≤ t1 ∧ t1 ≤ t2) (k : Nat) (j : Int) : zAdv (zAdv σ (σ 14 0) t1) (σ 14 0) t2 k j = zAdv σ (σ 14 0) t2 k j := by
  have f := hI.r
  have sm : ∀ (P : Int → Prop) (v : Int → Int), zSum (fun c => zNewV σ t1 c (P c) (v c)) (σ 14 0).toNat + zSum (fun c => zNewV (zAdv σ (σ 14 0) t1) t2 c (P c) (v c)) (σ 14 0).toNat = zSum (fun c => zNewV σ t2 c (P c) (v c)) (σ 14 0).toNat := fun P v => zSum_add (fun c a b => zNewV_c hI hJ (P c) ht ⟨a, by omega⟩)
  by_cases e1 : k = 1
  · rw [e1]; show (if j = 0 then t2 else (if j = 0 then t1 else σ 1 j)) = (if j = 0 then t2 else σ 1 j)
    split <;> rfl
  by_cases e2 : k = 19
  · rw [e2, zAdv_19, zAdv_19]
    by_cases h : 0 ≤ j ∧ j < σ 14 0
    · have q := zStW hI hJ ht.1 h
      have s := hI.s (i := σ 15 j) (by have := hI.c h; omega)
      show (if (0 ≤ j ∧ j < σ 14 0) ∧ (zSt σ (σ 14 0) t1 j = 2 ∨ zSt σ (σ 14 0) t1 j = 3) then (if σ 20 j + σ 8 (σ 15 j) ≤ t2 then 4 else if σ 20 j ≤ t2 then 3 else 2) else zSt σ (σ 14 0) t1 j) = (if (0 ≤ j ∧ j < σ 14 0) ∧ (σ 19 j = 2 ∨ σ 19 j = 3) then (if σ 20 j + σ 8 (σ 15 j) ≤ t2 then 4 else if σ 20 j ≤ t2 then 3 else 2) else σ 19 j)
      by_cases a : zSt σ (σ 14 0) t1 j = 2 ∨ zSt σ (σ 14 0) t1 j = 3
      · have b : σ 19 j = 2 ∨ σ 19 j = 3 := by omega
        rw [if_pos ⟨h, a⟩, if_pos (show (0 ≤ j ∧ j < σ 14 0) ∧ (σ 19 j = 2 ∨ σ 19 j = 3) from ⟨h, b⟩)]
      · rw [if_neg (fun z => a z.2)]
        by_cases d : σ 19 j = 2 ∨ σ 19 j = 3
        · rw [if_pos ⟨h, d⟩, if_pos (by omega)]; omega
        · rw [if_neg (fun z => d z.2)]; omega
    · have o : ∀ τ : zT, ∀ t, zSt τ (σ 14 0) t j = τ 19 j := fun τ t => by unfold zSt; exact if_neg (fun z => h z.1)
      rw [o, o, zAdv_19, o]
  by_cases e3 : k = 10
  · rw [e3]
    show (σ 10 j + zSum (fun c => zNewV σ t1 c (σ 15 c = j) (zBill σ c)) (σ 14 0).toNat) + zSum (fun c => zNewV (zAdv σ (σ 14 0) t1) t2 c (σ 15 c = j) (zBill σ c)) (σ 14 0).toNat = σ 10 j + zSum (fun c => zNewV σ t2 c (σ 15 c = j) (zBill σ c)) (σ 14 0).toNat
    rw [Int.add_assoc, sm]
  by_cases e4 : k = 30
  · rw [e4]
    show (σ 30 j + zSum (fun c => zNewV σ t1 c (σ 18 c = j) 1) (σ 14 0).toNat) + zSum (fun c => zNewV (zAdv σ (σ 14 0) t1) t2 c (σ 18 c = j) 1) (σ 14 0).toNat = σ 30 j + zSum (fun c => zNewV σ t2 c (σ 18 c = j) 1) (σ 14 0).toNat
    rw [Int.add_assoc, sm (fun c => σ 18 c = j) (fun _ => 1)]
  by_cases e5 : k = 31
  · rw [e5]
    show (σ 31 j + zSum (fun c => zNewV σ t1 c (σ 18 c = j) (σ 8 (σ 15 c))) (σ 14 0).toNat) + zSum (fun c => zNewV (zAdv σ (σ 14 0) t1) t2 c (σ 18 c = j) (σ 8 (σ 15 c))) (σ 14 0).toNat = σ 31 j + zSum (fun c => zNewV σ t2 c (σ 18 c = j) (σ 8 (σ 15 c))) (σ 14 0).toNat
    rw [Int.add_assoc, sm (fun c => σ 18 c = j) (fun c => σ 8 (σ 15 c))]
  rw [zAdv_o ⟨e1, e2, e3, e4, e5⟩, zAdv_o ⟨e1, e2, e3, e4, e5⟩, zAdv_o ⟨e1, e2, e3, e4, e5⟩]
/-- no minute, nothing -/
theorem zNewV_0 {σ : zT} (hI : zInv σ) (hJ : zInv2 σ) {c v : Int} (P : Prop) (h : 0 ≤ c ∧ c < σ 14 0) : zNewV σ (σ 1 0) c P v = 0 := by
  have g := hJ.c h
  have s := hI.s (i := σ 15 c) (by have := hI.c h; omega)
  exact zNewV_f (by omega)
theorem zSum_z {f : Int → Int} : ∀ {n : Nat}, (∀ k : Int, 0 ≤ k → k < n → f k = 0) → zSum f n = 0
  | 0, _ => rfl
  | n + 1, q => by
    have h1 := zSum_z (n := n) (fun k a b => q k a (by omega))
    have h2 := q n (by omega) (by omega)
    rw [zSum_s]; omega
theorem zAdv_now {σ : zT} (hI : zInv σ) (hJ : zInv2 σ) (k : Nat) (j : Int) : zAdv σ (σ 14 0) (σ 1 0) k j = σ k j := by
  have f := hI.r
  have sm : ∀ (P : Int → Prop) (v : Int → Int), zSum (fun c => zNewV σ (σ 1 0) c (P c) (v c)) (σ 14 0).toNat = 0 := fun P v => zSum_z (fun c a b => zNewV_0 hI hJ (P c) ⟨a, by omega⟩)
  by_cases e1 : k = 1
  · rw [e1]; show (if j = 0 then σ 1 0 else σ 1 j) = σ 1 j
    by_cases h : j = 0
    · rw [if_pos h, h]
    · rw [if_neg h]
  by_cases e2 : k = 19
  · rw [e2, zAdv_19]
    by_cases h : 0 ≤ j ∧ j < σ 14 0
    · have q := zStW hI hJ (Int.le_refl (σ 1 0)) h
      have g := hJ.c h
      have c := hI.c h
      have s := hI.s (i := σ 15 j) (by omega)
      omega
    · unfold zSt; exact if_neg (fun z => h z.1)
  by_cases e3 : k = 10
  · rw [e3, zAdv_10, sm (fun c => σ 15 c = j) (zBill σ)]; omega
  by_cases e4 : k = 30
  · rw [e4]
    show σ 30 j + zSum (fun c => zNewV σ (σ 1 0) c (σ 18 c = j) 1) (σ 14 0).toNat = σ 30 j
    rw [sm (fun c => σ 18 c = j) (fun _ => 1)]; omega
  by_cases e5 : k = 31
  · rw [e5]
    show σ 31 j + zSum (fun c => zNewV σ (σ 1 0) c (σ 18 c = j) (σ 8 (σ 15 c))) (σ 14 0).toNat = σ 31 j
    rw [sm (fun c => σ 18 c = j) (fun c => σ 8 (σ 15 c))]; omega
  rw [zAdv_o ⟨e1, e2, e3, e4, e5⟩]
