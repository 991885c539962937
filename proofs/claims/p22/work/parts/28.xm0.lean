/-! plain facts for the class's public methods -/
theorem x_good1 : ∀ w ∈ Cond.classLink RX4 222 "java/lang/IllegalArgumentException" :: Cond.initialized "java/lang/IllegalArgumentException" :: vx_atS RX4 226 "java/lang/IllegalArgumentException" ["java/lang/RuntimeException", "java/lang/Exception"], vx_ot w = true := by decide +kernel
theorem x_good2 : ∀ w ∈ Cond.classLink RX4 92 "java/lang/IllegalStateException" :: Cond.initialized "java/lang/IllegalStateException" :: vx_atS RX4 96 "java/lang/IllegalStateException" ["java/lang/RuntimeException", "java/lang/Exception"], vx_ot w = true := by decide +kernel
theorem x_good3 : ∀ w ∈ Cond.classLink RX4 175 "java/lang/IndexOutOfBoundsException" :: Cond.initialized "java/lang/IndexOutOfBoundsException" :: vx_atS RX4 179 "java/lang/IndexOutOfBoundsException" ["java/lang/RuntimeException", "java/lang/Exception"], vx_ot w = true := by decide +kernel
theorem x_nms : ∀ n ∈ ["java/lang/RuntimeException", "java/lang/Exception"], Bundle.fit n = true := by decide +kernel
theorem x_fit1 : Bundle.fit "java/lang/IllegalArgumentException" = true := by decide +kernel
theorem x_fit2 : Bundle.fit "java/lang/IllegalStateException" = true := by decide +kernel
theorem x_fit3 : Bundle.fit "java/lang/IndexOutOfBoundsException" = true := by decide +kernel
abbrev xIA : String := "java/lang/IllegalArgumentException"
abbrev xIS : String := "java/lang/IllegalStateException"
abbrev xIO : String := "java/lang/IndexOutOfBoundsException"
/-- sums of a pilot's moves, and of their minutes -/
def zInv3 (σ : zT) : Prop := ∀ k, 0 ≤ k → k < σ 11 0 → σ 30 k = zSum (fun c => zP1 σ k 4 1 c) (σ 14 0).toNat ∧ σ 31 k = zSum (fun c => zP1 σ k 4 (σ 8 (σ 15 c)) c) (σ 14 0).toNat
theorem zSum_mulr (f : Int → Int) (m : Int) : ∀ n : Nat, zSum (fun c => f c * m) n = zSum f n * m
  | 0 => by simp [zSum]
  | n + 1 => by rw [zSum_s, zSum_s, zSum_mulr f m n, Int.add_mul]
theorem zP1_mul (σ : zT) (k : Int) : zSum (fun c => zP1 σ k 4 (σ 8 (σ 15 c) * σ 13 k) c) (σ 14 0).toNat = zSum (fun c => zP1 σ k 4 (σ 8 (σ 15 c)) c) (σ 14 0).toNat * σ 13 k := by
  rw [← zSum_mulr]
  refine zSum_eq (fun c _ _ => ?_)
  show (if _ then _ else _) = (if _ then _ else _) * _
  split
  · rfl
  · simp
theorem zAboard {σ : zT} (hI : zInv σ) (hJ : zInv2 σ) : zTgs σ (-1) (σ 1 0) (σ 1 0) = zSum (fun c => if σ 19 c = 3 then σ 9 (σ 15 c) else 0) (σ 14 0).toNat := by
  refine zSum_eq (fun c h1 h2 => ?_)
  have f0 := hI.r
  have fc := hI.c (i := c) (by omega)
  have jc := hJ.c (i := c) (by omega)
  have gc := hI.s (i := σ 15 c) (by omega)
  unfold zTg zNd zOv zTk
  by_cases q : σ 19 c = 3
  · rw [if_pos q, if_pos (by omega)]
  · rw [if_neg q, if_neg (by omega)]
theorem zMany_7 {x : Int} (h : 0 ≤ x ∧ x ≤ 7) : zMany x = 3 ↔ x = 7 := by
  unfold zMany
  omega
theorem zInv_advn {σ : zT} (hI : zInv σ) (hJ : zInv2 σ) {n t : Int} (ht : σ 1 0 ≤ t ∧ t ≤ 20000) : zInv (zAdv σ n t) := by
  have f := hI.r
  refine ⟨⟨by show 0 ≤ t ∧ t ≤ 20000; omega, f.2⟩, hI.2.1, hI.2.2.1, fun i h1 h2 => ?_⟩
  have g := hI.c (i := i) ⟨h1, h2⟩
  refine ⟨g.1, g.2.1, g.2.2.1, g.2.2.2.1, ?_⟩
  show (0 ≤ zSt σ n t i ∧ zSt σ n t i ≤ 4) ∧ (-1 ≤ σ 20 i ∧ σ 20 i ≤ 21440) ∧ (2 ≤ zSt σ n t i ↔ 0 ≤ σ 20 i)
  unfold zSt
  split
  · rename_i q
    split
    · omega
    · split <;> omega
  · omega
theorem zAdv_0 (σ : zT) (t : Int) (k : Nat) (j : Int) : zAdv σ 0 t k j = zup σ 1 0 t k j := by
  by_cases e1 : k = 1
  · subst e1
    show (if j = 0 then t else σ 1 j) = if 1 = 1 ∧ j = 0 then t else σ 1 j
    by_cases h : j = 0
    · rw [if_pos h, if_pos ⟨rfl, h⟩]
    · rw [if_neg h, if_neg (fun q => h q.2)]
  rw [zup_t e1]
  by_cases e2 : k = 19
  · rw [e2, zAdv_19]; unfold zSt; rw [if_neg (fun z => by omega)]
  by_cases e3 : k = 10
  · rw [e3, zAdv_10]; show σ 10 j + 0 = σ 10 j; omega
  by_cases e4 : k = 30
  · rw [e4]; show σ 30 j + 0 = σ 30 j; omega
  by_cases e5 : k = 31
  · rw [e5]; show σ 31 j + 0 = σ 31 j; omega
  rw [zAdv_o ⟨e1, e2, e3, e4, e5⟩]
theorem zDn_adv {σ : zT} (hI : zInv σ) (hJ : zInv2 σ) {i t : Int} (hi : 0 ≤ i ∧ i < σ 14 0) (ht : σ 1 0 ≤ t) : zDn (zAdv σ i t) i ↔ zNew σ t i := by
  have g := hI.c hi
  have q := hJ.c hi
  have s := hI.s (i := σ 15 i) (by omega)
  have e : zSt σ i t i = σ 19 i := zSt_out (Int.le_refl i)
  show (((zSt σ i t i = 2 ∧ σ 20 i ≤ t) ∨ zSt σ i t i = 3) ∧ σ 18 i ≠ -1 ∧ σ 20 i + σ 8 (σ 15 i) ≤ t) ↔ ((σ 19 i = 2 ∨ σ 19 i = 3) ∧ σ 20 i + σ 8 (σ 15 i) ≤ t)
  rw [e]
  constructor
  · intro h; omega
  · intro h
    have p := hJ.p hi (by omega)
    omega
theorem zSt_ne {σ : zT} {i t j : Int} (h : j ≠ i) : zSt σ (i + 1) t j = zSt σ i t j := by
  unfold zSt
  by_cases q : (0 ≤ j ∧ j < i) ∧ (σ 19 j = 2 ∨ σ 19 j = 3)
  · rw [if_pos q, if_pos ⟨⟨q.1.1, by omega⟩, q.2⟩]
  · rw [if_neg q, if_neg (fun z => q ⟨⟨z.1.1, by omega⟩, z.2⟩)]
theorem zAdv_30i (σ : zT) {n t j : Int} (hn : 0 ≤ n) : zAdv σ (n + 1) t 30 j = zAdv σ n t 30 j + zNewV σ t n (σ 18 n = j) 1 := by
  show σ 30 j + zSum _ (n + 1).toNat = σ 30 j + zSum _ n.toNat + _
  rw [zSum_i _ hn, Int.add_assoc]
theorem zAdv_31i (σ : zT) {n t j : Int} (hn : 0 ≤ n) : zAdv σ (n + 1) t 31 j = zAdv σ n t 31 j + zNewV σ t n (σ 18 n = j) (σ 8 (σ 15 n)) := by
  show σ 31 j + zSum _ (n + 1).toNat = σ 31 j + zSum _ n.toNat + _
  rw [zSum_i _ hn, Int.add_assoc]
theorem zAdv_st {σ : zT} (hI : zInv σ) (hJ : zInv2 σ) {i t : Int} (hi : 0 ≤ i ∧ i < σ 14 0) (ht : σ 1 0 ≤ t) (k : Nat) (j : Int) : zAdv σ (i + 1) t k j = zBD (zAdv σ i t) i k j := by
  have g := hI.c hi
  have w := hJ.c hi
  have s := hI.s (i := σ 15 i) (by omega)
  have e : zAdv σ i t 19 i = σ 19 i := zSt_out (Int.le_refl i)
  have e20 : zAdv σ i t 20 i = σ 20 i := rfl
  have e1 : zAdv σ i t 1 0 = t := rfl
  by_cases hd : zNew σ t i
  · rw [zBD_t ((zDn_adv hI hJ hi ht).mpr hd)]
    have hv : ∀ (P : Prop) (v : Int), zNewV σ t i P v = @ite Int P (Classical.propDecidable _) v 0 := fun P v => by
      by_cases hP : P
      · rw [zNewV_t hd hP, if_pos hP]
      · rw [zNewV_p hP, if_neg hP]
    by_cases k1 : k = 31
    · subst k1
      rw [zAdv_31i σ hi.1, hv]
      by_cases q : σ 18 i = j
      · rw [if_pos q, ← q]; exact (zup_s _ _ _ _).symm
      · rw [if_neg q, zup_i (i := zAdv σ i t 18 i) (fun z => q z.symm), zup_t (by decide), zup_t (by decide), zup_t (by decide), Int.add_zero]
    rw [zup_t k1]
    by_cases k2 : k = 30
    · subst k2
      rw [zAdv_30i σ hi.1, hv]
      by_cases q : σ 18 i = j
      · rw [if_pos q, ← q]; exact (zup_s _ _ _ _).symm
      · rw [if_neg q, zup_i (i := zAdv σ i t 18 i) (fun z => q z.symm), zup_t (by decide), zup_t (by decide), Int.add_zero]
    rw [zup_t k2]
    by_cases k3 : k = 10
    · subst k3
      rw [zAdv_10i σ hi.1, hv]
      by_cases q : σ 15 i = j
      · rw [if_pos q, ← q]
        refine Eq.trans ?_ (zup_s _ _ _ _).symm
        show zAdv σ i t 10 (σ 15 i) + (σ 8 (σ 15 i) * σ 13 (σ 18 i) + 100 * σ 9 (σ 15 i)) = zAdv σ i t 10 (σ 15 i) + (σ 8 (σ 15 i) * σ 13 (σ 18 i) + σ 9 (σ 15 i) * 100)
        rw [Int.mul_comm 100]
      · rw [if_neg q, zup_i (i := zAdv σ i t 15 i) (fun z => q z.symm), zup_t (by decide), Int.add_zero]
    rw [zup_t k3]
    by_cases k4 : k = 19
    · subst k4
      rw [zAdv_19]
      by_cases q : j = i
      · rw [q, zup_s, zSt_i hi.1]
        have hd' : (σ 19 i = 2 ∨ σ 19 i = 3) ∧ σ 20 i + σ 8 (σ 15 i) ≤ t := hd
        rw [if_pos hd'.1, if_pos hd'.2]
      · rw [zup_i q, zAdv_19, zSt_ne q]
    rw [zup_t k4]
    by_cases k5 : k = 1
    · subst k5; rfl
    rw [zAdv_o ⟨k5, k4, k3, k2, k1⟩, zAdv_o ⟨k5, k4, k3, k2, k1⟩]
  · rw [zBD_f (fun z => hd ((zDn_adv hI hJ hi ht).mp z)), e, e20, e1]
    have hv : ∀ (P : Prop) (v : Int), zNewV σ t i P v = 0 := fun P v => zNewV_f (fun z => hd z)
    by_cases k1 : k = 31
    · subst k1
      rw [zAdv_31i σ hi.1, hv, zup_t (by decide), Int.add_zero]
    by_cases k2 : k = 30
    · subst k2
      rw [zAdv_30i σ hi.1, hv, zup_t (by decide), Int.add_zero]
    by_cases k3 : k = 10
    · subst k3
      rw [zAdv_10i σ hi.1, hv, zup_t (by decide), Int.add_zero]
    by_cases k4 : k = 19
    · subst k4
      rw [zAdv_19]
      by_cases q : j = i
      · rw [q, zup_s, zSt_i hi.1]
        have hd' : ¬ ((σ 19 i = 2 ∨ σ 19 i = 3) ∧ σ 20 i + σ 8 (σ 15 i) ≤ t) := hd
        by_cases a : σ 19 i = 2 ∨ σ 19 i = 3
        · rw [if_pos a, if_neg (fun z => hd' ⟨a, z⟩)]
          by_cases b : σ 20 i ≤ t
          · rw [if_pos b]
            by_cases c : σ 19 i = 2
            · rw [if_pos ⟨c, b⟩]
            · rw [if_neg (fun z => c z.1)]; omega
          · rw [if_neg b, if_neg (fun z => b z.2)]; omega
        · rw [if_neg a, if_neg (fun z => a (Or.inl z.1))]
      · rw [zup_i q, zAdv_19, zSt_ne q]
    rw [zup_t k4]
    by_cases k5 : k = 1
    · subst k5; rfl
    rw [zAdv_o ⟨k5, k4, k3, k2, k1⟩, zAdv_o ⟨k5, k4, k3, k2, k1⟩]
