/-! every call keeps what holds of the table -/
def zUn (σ : zT) : Prop := (∀ i, σ 5 0 ≤ i → σ 10 i = 0) ∧ (∀ i, σ 11 0 ≤ i → σ 30 i = 0 ∧ σ 31 i = 0) ∧ ∀ i, σ 14 0 ≤ i → σ 17 i = 0
def zAll (σ : zT) : Prop := zInv σ ∧ zInv2 σ ∧ zInv3 σ ∧ zUn σ
theorem zAll_0 : zAll zInit := by
  refine ⟨⟨by unfold zR0 zInit; decide, fun i a b => ?_, fun i a b => ?_, fun i a b => ?_⟩, fun i a b => ?_, fun i a b => ?_, ⟨fun i a => rfl, fun i a => ⟨rfl, rfl⟩, fun i a => rfl⟩⟩
  · have b : i < 0 := b; omega
  · have b : i < 0 := b; omega
  · have b : i < 0 := b; omega
  · have b : i < 0 := b; omega
  · have b : i < 0 := b; omega
/-- the same but for the throw's number -/
theorem zAll.eq {σ σ' : zT} (h : zAll σ) (e : ∀ k j, k ≠ 0 → k ≠ 2 → k ≠ 3 → k ≠ 4 → k ≠ 21 → σ' k j = σ k j) (hr : (10 ≤ σ' 2 0 ∧ σ' 2 0 ≤ 300) ∧ (0 ≤ σ' 3 0 ∧ σ' 3 0 ≤ 200) ∧ (0 ≤ σ' 4 0 ∧ σ' 4 0 ≤ 6)) : zAll σ' := by
  have e' : ∀ k, (k = 1 ∨ 5 ≤ k ∧ k ≠ 21) → ∀ j, σ' k j = σ k j := fun k hk j => e k j (by omega) (by omega) (by omega) (by omega) (by omega)
  obtain ⟨h1, h2, h3, h4⟩ := h
  have f0 := h1.r
  refine ⟨⟨?_, fun i a b => ?_, fun i a b => ?_, fun i a b => ?_⟩, fun i a b => ?_, fun i a b => ?_, ?_⟩
  · unfold zR0; simp only [e' 1 (by omega), e' 5 (by omega), e' 11 (by omega), e' 14 (by omega)]; exact ⟨f0.1, hr.1, hr.2.1, hr.2.2, f0.2.2.2.2⟩
  · rw [e' 5 (by omega)] at b
    unfold zRs; simp only [e' 6 (by omega), e' 7 (by omega), e' 8 (by omega), e' 9 (by omega)]; exact h1.2.1 i a b
  · rw [e' 11 (by omega)] at b
    unfold zRp; simp only [e' 12 (by omega), e' 13 (by omega)]; exact h1.2.2.1 i a b
  · rw [e' 14 (by omega)] at b
    unfold zRc; simp only [e' 5 (by omega), e' 11 (by omega), e' 15 (by omega), e' 16 (by omega), e' 17 (by omega), e' 18 (by omega), e' 19 (by omega), e' 20 (by omega)]; exact h1.2.2.2 i a b
  · rw [e' 14 (by omega)] at b
    unfold zRd zOv zTk; simp only [e' 1 (by omega), e' 8 (by omega), e' 15 (by omega), e' 17 (by omega), e' 18 (by omega), e' 19 (by omega), e' 20 (by omega)]; exact h2 i a b
  · rw [e' 11 (by omega)] at b
    unfold zP1; simp only [e' 8 (by omega), e' 14 (by omega), e' 15 (by omega), e' 18 (by omega), e' 19 (by omega), e' 30 (by omega), e' 31 (by omega)]; exact h3 i a b
  · unfold zUn; simp only [e' 5 (by omega), e' 10 (by omega), e' 11 (by omega), e' 14 (by omega), e' 17 (by omega), e' 30 (by omega), e' 31 (by omega)]; exact h4
theorem zAll_th {σ : zT} (h : zAll σ) (v : Int) : zAll (zup σ 0 0 v) := h.eq (fun k j h0 _ _ _ _ => zup_t h0) ⟨h.1.r.2.1, h.1.r.2.2.1, h.1.r.2.2.2.1⟩
theorem zAll_tide {σ : zT} (h : zAll σ) {d r : Int} (ht : zth_tide d r = 0) : zAll (zst_tide σ d r) := by
  unfold zth_tide at ht
  refine h.eq (fun k j h0 h2 h3 h4 h5 => by unfold zst_tide; rw [zup_t h3, zup_t h2]) ?_
  have e2 : zst_tide σ d r 2 0 = d := by simp [zst_tide, zup]
  have e3 : zst_tide σ d r 3 0 = r := by simp [zst_tide, zup]
  have e4 : zst_tide σ d r 4 0 = σ 4 0 := by simp [zst_tide, zup]
  rw [e2, e3, e4]
  split at ht
  · exact ⟨by omega, by omega, h.1.r.2.2.2.1⟩
  · omega
theorem zAll_tugs {σ : zT} (h : zAll σ) {n : Int} (ht : zth_tugs n = 0) : zAll (zst_tugs σ n) := by
  unfold zth_tugs at ht
  refine h.eq (fun k j h0 h2 h3 h4 h5 => zup_t h4) ?_
  have e2 : zst_tugs σ n 2 0 = σ 2 0 := by simp [zst_tugs, zup]
  have e3 : zst_tugs σ n 3 0 = σ 3 0 := by simp [zst_tugs, zup]
  have e4 : zst_tugs σ n 4 0 = n := by simp [zst_tugs, zup]
  rw [e2, e3, e4]
  split at ht
  · exact ⟨h.1.r.2.1, h.1.r.2.2.1, by omega⟩
  · omega
theorem zAll_ship {σ : zT} (h : zAll σ) {d t n g : Int} (ht : zth_ship σ d t n g = 0) : zAll (zst_ship σ d t n g) := by
  obtain ⟨h1, h2, h3, h4⟩ := h
  have f0 := h1.r
  have hr : ((1 ≤ d ∧ d ≤ 400) ∧ (1 ≤ t ∧ t ≤ 9999) ∧ (10 ≤ n ∧ n ≤ 120) ∧ (0 ≤ g ∧ g ≤ 3)) ∧ σ 5 0 ≠ 12 := by
    unfold zth_ship at ht
    split at ht
    · omega
    · split at ht
      · omega
      · rename_i a b; exact ⟨by omega, b⟩
  have eo : ∀ k j, (k < 5 ∨ 9 < k) → zst_ship σ d t n g k j = σ k j := fun k j hk => by
    unfold zst_ship
    rw [zup_t (by omega), zup_t (by omega), zup_t (by omega), zup_t (by omega), zup_t (by omega)]
  have e5 : zst_ship σ d t n g 5 0 = σ 5 0 + 1 := by simp [zst_ship, zup]
  have ei : ∀ k j, 5 < k → j ≠ σ 5 0 → zst_ship σ d t n g k j = σ k j := fun k j hk hj => by
    unfold zst_ship
    rw [zup_t (by omega), zup_i hj, zup_i hj, zup_i hj, zup_i hj]
  have e8 : ∀ c, 0 ≤ c ∧ c < σ 14 0 → zst_ship σ d t n g 8 (σ 15 c) = σ 8 (σ 15 c) := fun c hc => by
    have fc := h1.c hc
    exact ei 8 _ (by omega) (by omega)
  refine ⟨⟨?_, fun i a b => ?_, fun i a b => ?_, fun i a b => ?_⟩, fun i a b => ?_, fun i a b => ?_, ?_⟩
  · unfold zR0
    rw [eo 1 0 (by omega), eo 2 0 (by omega), eo 3 0 (by omega), eo 4 0 (by omega), eo 11 0 (by omega), eo 14 0 (by omega), e5]
    omega
  · rw [e5] at b
    by_cases q : i = σ 5 0
    · subst q
      unfold zRs
      simp [zst_ship, zup]
      omega
    · unfold zRs
      rw [ei 6 i (by omega) q, ei 7 i (by omega) q, ei 8 i (by omega) q, ei 9 i (by omega) q]
      exact h1.2.1 i a (by omega)
  · rw [eo 11 0 (by omega)] at b
    unfold zRp
    rw [eo 12 i (by omega), eo 13 i (by omega)]
    exact h1.2.2.1 i a b
  · rw [eo 14 0 (by omega)] at b
    have fc := h1.c (i := i) ⟨a, b⟩
    unfold zRc
    rw [eo 15 i (by omega), eo 16 i (by omega), eo 17 i (by omega), eo 18 i (by omega), eo 19 i (by omega), eo 20 i (by omega), eo 11 0 (by omega), e5]
    omega
  · rw [eo 14 0 (by omega)] at b
    unfold zRd zOv zTk
    rw [eo 15 i (by omega), e8 i ⟨a, b⟩, eo 1 0 (by omega), eo 17 i (by omega), eo 18 i (by omega), eo 19 i (by omega), eo 20 i (by omega)]
    exact h2 i a b
  · rw [eo 11 0 (by omega)] at b
    have e := h3 i a b
    rw [eo 30 i (by omega), eo 31 i (by omega), eo 14 0 (by omega), e.1, e.2]
    refine ⟨zSum_eq (fun c x y => ?_), zSum_eq (fun c x y => ?_)⟩
    · unfold zP1; rw [eo 18 c (by omega), eo 19 c (by omega)]
    · unfold zP1; rw [eo 18 c (by omega), eo 19 c (by omega), eo 15 c (by omega), e8 c ⟨x, by omega⟩]
  · refine ⟨fun i a => ?_, fun i a => ?_, fun i a => ?_⟩
    · rw [e5] at a; rw [eo 10 i (by omega)]; exact h4.1 i (by omega)
    · rw [eo 11 0 (by omega)] at a; rw [eo 30 i (by omega), eo 31 i (by omega)]; exact h4.2.1 i a
    · rw [eo 14 0 (by omega)] at a; rw [eo 17 i (by omega)]; exact h4.2.2 i a
theorem zAll_pilot {σ : zT} (h : zAll σ) {d t : Int} (ht : zth_pilot σ d t = 0) : zAll (zst_pilot σ d t) := by
  obtain ⟨h1, h2, h3, h4⟩ := h
  have f0 := h1.r
  have hr : ((1 ≤ d ∧ d ≤ 9999) ∧ (1 ≤ t ∧ t ≤ 50)) ∧ σ 11 0 ≠ 8 := by
    unfold zth_pilot at ht
    split at ht
    · omega
    · split at ht
      · omega
      · rename_i a b; exact ⟨by omega, b⟩
  have eo : ∀ k j, (k < 11 ∨ 13 < k) → zst_pilot σ d t k j = σ k j := fun k j hk => by
    unfold zst_pilot
    rw [zup_t (by omega), zup_t (by omega), zup_t (by omega)]
  have e11 : zst_pilot σ d t 11 0 = σ 11 0 + 1 := by simp [zst_pilot, zup]
  have ei : ∀ k j, 11 < k → j ≠ σ 11 0 → zst_pilot σ d t k j = σ k j := fun k j hk hj => by
    unfold zst_pilot
    rw [zup_t (by omega), zup_i hj, zup_i hj]
  refine ⟨⟨?_, fun i a b => ?_, fun i a b => ?_, fun i a b => ?_⟩, fun i a b => ?_, fun i a b => ?_, ?_⟩
  · unfold zR0
    rw [eo 1 0 (by omega), eo 2 0 (by omega), eo 3 0 (by omega), eo 4 0 (by omega), eo 5 0 (by omega), eo 14 0 (by omega), e11]
    omega
  · rw [eo 5 0 (by omega)] at b
    unfold zRs
    rw [eo 6 i (by omega), eo 7 i (by omega), eo 8 i (by omega), eo 9 i (by omega)]
    exact h1.2.1 i a b
  · rw [e11] at b
    by_cases q : i = σ 11 0
    · subst q
      unfold zRp
      simp [zst_pilot, zup]
      omega
    · unfold zRp
      rw [ei 12 i (by omega) q, ei 13 i (by omega) q]
      exact h1.2.2.1 i a (by omega)
  · rw [eo 14 0 (by omega)] at b
    have fc := h1.c (i := i) ⟨a, b⟩
    unfold zRc
    rw [eo 15 i (by omega), eo 16 i (by omega), eo 17 i (by omega), eo 18 i (by omega), eo 19 i (by omega), eo 20 i (by omega), eo 5 0 (by omega), e11]
    omega
  · rw [eo 14 0 (by omega)] at b
    unfold zRd zOv zTk
    rw [eo 15 i (by omega), eo 8 _ (by omega), eo 1 0 (by omega), eo 17 i (by omega), eo 18 i (by omega), eo 19 i (by omega), eo 20 i (by omega)]
    exact h2 i a b
  · rw [e11] at b
    rw [eo 30 i (by omega), eo 31 i (by omega), eo 14 0 (by omega)]
    have s1 : ∀ v : Int → Int, zSum (fun c => zP1 (zst_pilot σ d t) i 4 (v c) c) (σ 14 0).toNat = zSum (fun c => zP1 σ i 4 (v c) c) (σ 14 0).toNat := fun v => zSum_eq (fun c x y => by unfold zP1; rw [eo 18 c (by omega), eo 19 c (by omega)])
    have s2 : zSum (fun c => zP1 (zst_pilot σ d t) i 4 (zst_pilot σ d t 8 (zst_pilot σ d t 15 c)) c) (σ 14 0).toNat = zSum (fun c => zP1 σ i 4 (σ 8 (σ 15 c)) c) (σ 14 0).toNat := by
      rw [s1]; exact zSum_eq (fun c x y => by rw [eo 15 c (by omega), eo 8 _ (by omega)])
    rw [s1, s2]
    by_cases q : i = σ 11 0
    · have z := h4.2.1 i (by omega)
      have s0 : ∀ v : Int → Int, zSum (fun c => zP1 σ i 4 (v c) c) (σ 14 0).toNat = 0 := fun v => zSum_z (fun c x y => by
        have fc := h1.c (i := c) (by omega)
        unfold zP1; rw [if_neg (by omega)])
      rw [s0, s0]; exact z
    · exact h3 i a (by omega)
  · refine ⟨fun i a => ?_, fun i a => ?_, fun i a => ?_⟩
    · rw [eo 5 0 (by omega)] at a; rw [eo 10 i (by omega)]; exact h4.1 i a
    · rw [e11] at a; rw [eo 30 i (by omega), eo 31 i (by omega)]; exact h4.2.1 i (by omega)
    · rw [eo 14 0 (by omega)] at a; rw [eo 17 i (by omega)]; exact h4.2.2 i a
theorem zAll_call {σ : zT} (h : zAll σ) {k w : Int} (ht : zth_call σ k w = 0) : zAll (zst_call σ k w) := by
  obtain ⟨h1, h2, h3, h4⟩ := h
  have f0 := h1.r
  have hr : (0 ≤ k ∧ k < σ 5 0) ∧ (σ 1 0 ≤ w ∧ w ≤ 20000) ∧ σ 14 0 ≠ 40 := by
    unfold zth_call at ht
    split at ht
    · omega
    · split at ht
      · omega
      · split at ht
        · omega
        · rename_i a b c; exact ⟨by omega, by omega, c⟩
  have eo : ∀ q j, q ≠ 14 → q ≠ 15 → q ≠ 16 → q ≠ 18 → q ≠ 19 → q ≠ 20 → zst_call σ k w q j = σ q j := fun q j a b c d e f => by
    unfold zst_call
    rw [zup_t a, zup_t e, zup_t f, zup_t d, zup_t c, zup_t b]
  have e14 : zst_call σ k w 14 0 = σ 14 0 + 1 := by simp [zst_call, zup]
  have ei : ∀ q j, q ≠ 14 → j ≠ σ 14 0 → zst_call σ k w q j = σ q j := fun q j hq hj => by
    unfold zst_call
    rw [zup_t hq, zup_i hj, zup_i hj, zup_i hj, zup_i hj, zup_i hj]
  have n15 : zst_call σ k w 15 (σ 14 0) = k := by simp [zst_call, zup]
  have n16 : zst_call σ k w 16 (σ 14 0) = w := by simp [zst_call, zup]
  have n18 : zst_call σ k w 18 (σ 14 0) = -1 := by simp [zst_call, zup]
  have n19 : zst_call σ k w 19 (σ 14 0) = 0 := by simp [zst_call, zup]
  have n20 : zst_call σ k w 20 (σ 14 0) = -1 := by simp [zst_call, zup]
  have n17 : zst_call σ k w 17 (σ 14 0) = 0 := by rw [eo 17 _ (by decide) (by decide) (by decide) (by decide) (by decide) (by decide)]; exact h4.2.2 _ (Int.le_refl _)
  have z1 : zst_call σ k w 1 0 = σ 1 0 := eo 1 0 (by decide) (by decide) (by decide) (by decide) (by decide) (by decide)
  have z5 : zst_call σ k w 5 0 = σ 5 0 := eo 5 0 (by decide) (by decide) (by decide) (by decide) (by decide) (by decide)
  have z11 : zst_call σ k w 11 0 = σ 11 0 := eo 11 0 (by decide) (by decide) (by decide) (by decide) (by decide) (by decide)
  have z8 : ∀ j, zst_call σ k w 8 j = σ 8 j := fun j => eo 8 j (by decide) (by decide) (by decide) (by decide) (by decide) (by decide)
  refine ⟨⟨?_, fun i a b => ?_, fun i a b => ?_, fun i a b => ?_⟩, fun i a b => ?_, fun i a b => ?_, ?_⟩
  · unfold zR0
    rw [z1, z5, z11, e14, eo 2 0 (by decide) (by decide) (by decide) (by decide) (by decide) (by decide), eo 3 0 (by decide) (by decide) (by decide) (by decide) (by decide) (by decide), eo 4 0 (by decide) (by decide) (by decide) (by decide) (by decide) (by decide)]
    omega
  · rw [z5] at b
    have : zRs (zst_call σ k w) i = zRs σ i := rfl
    rw [this]; exact h1.2.1 i a b
  · rw [z11] at b
    have : zRp (zst_call σ k w) i = zRp σ i := rfl
    rw [this]; exact h1.2.2.1 i a b
  · rw [e14] at b
    unfold zRc
    rw [z5, z11]
    by_cases q : i = σ 14 0
    · subst q
      rw [n15, n16, n17, n18, n19, n20]
      omega
    · rw [ei 15 i (by decide) q, ei 16 i (by decide) q, ei 17 i (by decide) q, ei 18 i (by decide) q, ei 19 i (by decide) q, ei 20 i (by decide) q]
      exact h1.2.2.2 i a (by omega)
  · rw [e14] at b
    unfold zRd zOv zTk
    rw [z1, z8]
    by_cases q : i = σ 14 0
    · subst q
      rw [n15, n17, n18, n19, n20]
      have : zBit 0 2 = 0 := by decide
      rw [this]
      omega
    · rw [ei 15 i (by decide) q, ei 17 i (by decide) q, ei 18 i (by decide) q, ei 19 i (by decide) q, ei 20 i (by decide) q]
      exact h2 i a (by omega)
  · rw [z11] at b
    have e := h3 i a b
    rw [e14, zSum_i _ (by omega), zSum_i _ (by omega)]
    have x0 : ∀ v, zP1 (zst_call σ k w) i 4 v (σ 14 0) = 0 := fun v => by unfold zP1; rw [n18, n19, if_neg (by omega)]
    rw [x0, x0, eo 30 i (by decide) (by decide) (by decide) (by decide) (by decide) (by decide), eo 31 i (by decide) (by decide) (by decide) (by decide) (by decide) (by decide), e.1, e.2, Int.add_zero, Int.add_zero]
    refine ⟨zSum_eq (fun c x y => ?_), zSum_eq (fun c x y => ?_)⟩
    · unfold zP1; rw [ei 18 c (by decide) (by omega), ei 19 c (by decide) (by omega)]
    · unfold zP1; rw [ei 18 c (by decide) (by omega), ei 19 c (by decide) (by omega), ei 15 c (by decide) (by omega), z8]
  · refine ⟨fun i a => ?_, fun i a => ?_, fun i a => ?_⟩
    · rw [z5] at a; rw [eo 10 i (by decide) (by decide) (by decide) (by decide) (by decide) (by decide)]; exact h4.1 i a
    · rw [z11] at a; rw [eo 30 i (by decide) (by decide) (by decide) (by decide) (by decide) (by decide), eo 31 i (by decide) (by decide) (by decide) (by decide) (by decide) (by decide)]; exact h4.2.1 i a
    · rw [e14] at a; rw [eo 17 i (by decide) (by decide) (by decide) (by decide) (by decide) (by decide)]; exact h4.2.2 i (by omega)
