/-! plain facts for the walks -/
theorem zRest_r (m : Int) : 60 ≤ zRest m ∧ m ≤ zRest m ∧ (zRest m = 60 ∨ zRest m = m) := by
  unfold zRest; split <;> omega
theorem bI_all_t {P : Int → Prop} {i d : Int} (hi : 0 ≤ i) (hd : d = bI (∀ o, 0 ≤ o → o < i → P o)) (hp : P i) : d = bI (∀ o, 0 ≤ o → o < i + 1 → P o) := by
  rw [hd]
  exact bI_iff ⟨fun h o h1 h2 => if e : o = i then by rw [e]; exact hp else h o h1 (by omega), fun h o h1 h2 => h o h1 (by omega)⟩
theorem bI_all_f {P : Int → Prop} {i : Int} (hi : 0 ≤ i) (hp : ¬ P i) : 0 = bI (∀ o, 0 ≤ o → o < i + 1 → P o) := (bI_f (fun h => hp (h i hi (by omega)))).symm
theorem bI_all_d {P : Int → Prop} {i d : Int} (hd : d = bI (∀ o, 0 ≤ o → o < i → P o)) (h0 : d = 0) : 0 = bI (∀ o, 0 ≤ o → o < i + 1 → P o) := by
  rw [h0] at hd
  have h1 := bI_eq0.mp hd.symm
  exact (bI_f (fun h => h1 (fun o a b => h o a (by omega)))).symm
theorem bI_all_1 {P : Int → Prop} {i d : Int} (hi : 0 ≤ i) (hd : d = bI (∀ o, 0 ≤ o → o < i → P o)) (h0 : d ≠ 0) (hp : P i) : 1 = bI (∀ o, 0 ≤ o → o < i + 1 → P o) := by
  rw [hd] at h0
  have h1 := bI_ne0.mp h0
  exact (bI_t (fun o a b => if e : o = i then by rw [e]; exact hp else h1 o a (by omega))).symm
theorem bI_all_0 {P : Int → Prop} {i : Int} (hi : i ≤ 0) : 1 = bI (∀ o, 0 ≤ o → o < i → P o) := (bI_t (fun o a b => absurd b (by omega))).symm
/-- from a to i -/
theorem bI_from_0 {P : Int → Prop} {a i : Int} (hi : i ≤ a) : 1 = bI (∀ o, a ≤ o → o < i → P o) := (bI_t (fun o x y => absurd y (by omega))).symm
theorem bI_from_f {P : Int → Prop} {a i : Int} (hi : a ≤ i) (hp : ¬ P i) : 0 = bI (∀ o, a ≤ o → o < i + 1 → P o) := (bI_f (fun h => hp (h i hi (by omega)))).symm
theorem bI_from_1 {P : Int → Prop} {a i d : Int} (hd : d = bI (∀ o, a ≤ o → o < i → P o)) (h0 : d ≠ 0) (hp : P i) : 1 = bI (∀ o, a ≤ o → o < i + 1 → P o) := by
  rw [hd] at h0
  have h1 := bI_ne0.mp h0
  exact (bI_t (fun o x y => if e : o = i then by rw [e]; exact hp else h1 o x (by omega))).symm
theorem zTug_t {σ : zT} {k m i : Int} (h : i ≠ k ∧ 2 ≤ σ 19 i ∧ σ 20 i ≤ m ∧ m < σ 20 i + σ 8 (σ 15 i)) : zTug1 σ k m i = σ 9 (σ 15 i) := if_pos h
theorem zTug_f {σ : zT} {k m i : Int} (h : ¬ (i ≠ k ∧ 2 ≤ σ 19 i ∧ σ 20 i ≤ m ∧ m < σ 20 i + σ 8 (σ 15 i))) : zTug1 σ k m i = 0 := if_neg h
theorem zTug1_r {σ : zT} (hI : zInv σ) (k m : Int) {i : Int} (h : 0 ≤ i ∧ i < σ 14 0) : 0 ≤ zTug1 σ k m i ∧ zTug1 σ k m i ≤ 3 := by
  have f := hI.c h
  have g := hI.s (i := σ 15 i) (by omega)
  by_cases q : (i ≠ k ∧ 2 ≤ σ 19 i ∧ σ 20 i ≤ m ∧ m < σ 20 i + σ 8 (σ 15 i))
  · rw [zTug_t q]; omega
  · rw [zTug_f q]; omega
theorem zTugs_r {σ : zT} (hI : zInv σ) (k m : Int) : 0 ≤ zTugs σ k m ∧ zTugs σ k m ≤ 120 := by
  have f := hI.r
  have h := zSum_rng (f := zTug1 σ k m) (c := 3) (n := (σ 14 0).toNat) (fun j a b => zTug1_r hI k m ⟨a, by omega⟩)
  unfold zTugs
  omega
/-- the tent over 720 minutes -/
def zTent (t : Int) : Int := if t % 720 < 360 then t % 720 else 720 - t % 720
theorem zTent_r (t : Int) : 0 ≤ zTent t ∧ zTent t ≤ 360 := by unfold zTent; split <;> omega
theorem zLev_e (σ : zT) (t : Int) : zLev σ t = zTent t * σ 3 0 / 360 := rfl
theorem zLev_mono {σ : zT} (h : 0 ≤ σ 3 0) {a b : Int} (q : zTent a ≤ zTent b) : zLev σ a ≤ zLev σ b := by
  rw [zLev_e, zLev_e]
  exact Int.ediv_le_ediv (by decide) (Int.mul_le_mul_of_nonneg_right q h)
theorem zLev_r {σ : zT} (h : 0 ≤ σ 3 0 ∧ σ 3 0 ≤ 200) (t : Int) : 0 ≤ zLev σ t ∧ zLev σ t ≤ 200 := by
  have ht := zTent_r t
  rw [zLev_e]
  have h1 : 0 ≤ zTent t * σ 3 0 := Int.mul_nonneg ht.1 h.1
  have h2 : zTent t * σ 3 0 ≤ 360 * 200 := Int.mul_le_mul ht.2 h.2 h.1 (by decide)
  omega
theorem zTent_0 {t : Int} (h : t % 720 = 0) : zTent t = 0 := by unfold zTent; rw [h]; rfl
/-- over one period the tent is no lower than at its ends -/
theorem zTent_min {a m e : Int} (h1 : a ≤ m) (h2 : m ≤ e) (h : a / 720 = e / 720) : zTent a ≤ zTent m ∨ zTent e ≤ zTent m := by
  unfold zTent
  have hm : m / 720 = a / 720 := by omega
  split <;> split <;> split <;> omega
theorem zTide_a {σ : zT} (hr : 0 ≤ σ 3 0 ∧ σ 3 0 ≤ 200) {k t : Int} (ht : 1 ≤ σ 8 k) (h : t / 720 < (t + σ 8 k - 1) / 720) : zTideOk σ k t ↔ σ 6 k + 10 ≤ σ 2 0 + 0 := by
  constructor
  · intro q
    have q1 := q (720 * ((t + σ 8 k - 1) / 720)) (by omega) (by omega)
    rw [show zLev σ (720 * ((t + σ 8 k - 1) / 720)) = 0 by rw [zLev_e, zTent_0 (by omega)]; simp] at q1
    exact q1
  · intro q m _ _
    have := (zLev_r hr m).1
    omega
theorem zTide_b {σ : zT} (hr : 0 ≤ σ 3 0 ∧ σ 3 0 ≤ 200) {k t x : Int} (ht : 1 ≤ σ 8 k) (h : ¬ t / 720 < (t + σ 8 k - 1) / 720) (hx : x ≤ zLev σ t ∧ x ≤ zLev σ (t + σ 8 k - 1) ∧ (x = zLev σ t ∨ x = zLev σ (t + σ 8 k - 1))) : zTideOk σ k t ↔ σ 6 k + 10 ≤ σ 2 0 + x := by
  constructor
  · intro q
    rcases hx.2.2 with e | e
    · rw [e]; exact q t (by omega) (by omega)
    · rw [e]; exact q (t + σ 8 k - 1) (by omega) (by omega)
  · intro q m h1 h2
    rcases zTent_min (a := t) (m := m) (e := t + σ 8 k - 1) h1 (by omega) (by omega) with g | g
    · have := zLev_mono hr.1 g
      omega
    · have := zLev_mono hr.1 g
      omega
theorem zAnd1 {a : Int} (h : 0 ≤ a ∧ a < 2147483648) : zI a &&& zI 1 = zI (a % 2) := by
  obtain ⟨q, rfl⟩ := Int.eq_ofNat_of_zero_le h.1
  rw [show zI (q : Int) = nI q from (zI_nat q).symm]
  have e := pk_andN (n := q) (by omega) (m := zI 1) 1 (by decide +kernel)
  rw [e, show nI (q % 2 ^ 1) = zI ((q % 2 ^ 1 : Nat) : Int) from zI_nat _]
  congr 1
