/-! the law: its ships and pilots, plain facts -/
def zPre (σ : zT) : Prop := zAll σ ∧ σ 14 0 = 0 ∧ (∀ j, σ 10 j = 0) ∧ (∀ j, 0 ≤ j → j < σ 5 0 → σ 7 j = 100 * j + 1) ∧ ∀ j, 0 ≤ j → j < σ 11 0 → σ 12 j = if j = 3 then 201 else 9999
theorem zPre_0 : zPre zInit := ⟨zAll_0, rfl, fun j => rfl, fun j a b => by have b : j < 0 := b; omega, fun j a b => by have b : j < 0 := b; omega⟩
theorem zPre.law {σ : zT} (h : zPre σ) (h5 : σ 5 0 = 6) (h11 : σ 11 0 = 4) : zLaw σ := by
  refine ⟨h.1, ?_, ⟨h5, h11, by rw [h.2.1]; decide⟩, fun i a b => h.2.2.2.1 i a (by omega), fun i a b => h.2.2.2.2 i a (by omega)⟩
  unfold zInv4
  rw [h.2.1, zSum_z (fun k _ _ => h.2.2.1 k)]
  rfl
theorem zPre_ship {σ : zT} (h : zPre σ) {d t n g : Int} (ht : zth_ship σ d t n g = 0) (hn : t = 100 * σ 5 0 + 1) : zPre (zst_ship σ d t n g) := by
  have eo : ∀ k j, (k < 5 ∨ 9 < k) → zst_ship σ d t n g k j = σ k j := fun k j hk => by
    unfold zst_ship
    rw [zup_t (by omega), zup_t (by omega), zup_t (by omega), zup_t (by omega), zup_t (by omega)]
  have e5 : zst_ship σ d t n g 5 0 = σ 5 0 + 1 := by simp [zst_ship, zup]
  have e7 : zst_ship σ d t n g 7 (σ 5 0) = t := by simp [zst_ship, zup]
  have ei : ∀ k j, 5 < k → j ≠ σ 5 0 → zst_ship σ d t n g k j = σ k j := fun k j hk hj => by
    unfold zst_ship
    rw [zup_t (by omega), zup_i hj, zup_i hj, zup_i hj, zup_i hj]
  refine ⟨zAll_ship h.1 ht, by rw [eo 14 0 (by omega)]; exact h.2.1, fun j => by rw [eo 10 j (by omega)]; exact h.2.2.1 j, fun j a b => ?_, fun j a b => ?_⟩
  · rw [e5] at b
    by_cases q : j = σ 5 0
    · rw [q, e7, hn]
    · rw [ei 7 j (by omega) q]; exact h.2.2.2.1 j a (by omega)
  · rw [eo 11 0 (by omega)] at b
    rw [eo 12 j (by omega)]; exact h.2.2.2.2 j a b
theorem zPre_pilot {σ : zT} (h : zPre σ) {a r : Int} (ht : zth_pilot σ a r = 0) (ha : a = if σ 11 0 = 3 then 201 else 9999) : zPre (zst_pilot σ a r) := by
  have eo : ∀ k j, (k < 11 ∨ 13 < k) → zst_pilot σ a r k j = σ k j := fun k j hk => by
    unfold zst_pilot
    rw [zup_t (by omega), zup_t (by omega), zup_t (by omega)]
  have e11 : zst_pilot σ a r 11 0 = σ 11 0 + 1 := by simp [zst_pilot, zup]
  have e12 : zst_pilot σ a r 12 (σ 11 0) = a := by simp [zst_pilot, zup]
  have ei : ∀ k j, 11 < k → j ≠ σ 11 0 → zst_pilot σ a r k j = σ k j := fun k j hk hj => by
    unfold zst_pilot
    rw [zup_t (by omega), zup_i hj, zup_i hj]
  refine ⟨zAll_pilot h.1 ht, by rw [eo 14 0 (by omega)]; exact h.2.1, fun j => by rw [eo 10 j (by omega)]; exact h.2.2.1 j, fun j x y => ?_, fun j x y => ?_⟩
  · rw [eo 5 0 (by omega)] at y
    rw [eo 7 j (by omega)]; exact h.2.2.2.1 j x y
  · rw [e11] at y
    by_cases q : j = σ 11 0
    · rw [q, e12, ha]
    · rw [ei 12 j (by omega) q]; exact h.2.2.2.2 j x (by omega)
theorem Rl_ship {τ σ : zT} (h : Rl τ σ) (h14 : σ 14 0 = 0) {i x d t n g : Int} (hi : σ 5 0 = i) (hx : x = d + 512 * n + 65536 * g) : Rl (zup τ 1 i x) (zst_ship σ d t n g) := by
  subst hi
  have eo : ∀ k j, (k < 5 ∨ 9 < k) → zst_ship σ d t n g k j = σ k j := fun k j hk => by
    unfold zst_ship
    rw [zup_t (by omega), zup_t (by omega), zup_t (by omega), zup_t (by omega), zup_t (by omega)]
  have e5 : zst_ship σ d t n g 5 0 = σ 5 0 + 1 := by simp [zst_ship, zup]
  have n6 : zst_ship σ d t n g 6 (σ 5 0) = d := by simp [zst_ship, zup]
  have n8 : zst_ship σ d t n g 8 (σ 5 0) = n := by simp [zst_ship, zup]
  have n9 : zst_ship σ d t n g 9 (σ 5 0) = g := by simp [zst_ship, zup]
  have ei : ∀ k j, 5 < k → j ≠ σ 5 0 → zst_ship σ d t n g k j = σ k j := fun k j hk hj => by
    unfold zst_ship
    rw [zup_t (by omega), zup_i hj, zup_i hj, zup_i hj, zup_i hj]
  refine ⟨⟨?_, ?_, ?_, ?_, ?_, ?_⟩, fun j a b => ?_, fun j a b => ?_, fun j a b => ?_⟩
  · rw [zup_t (by decide), eo 1 0 (by omega)]; exact h.g0
  · rw [zup_t (by decide), eo 2 0 (by omega)]; exact h.g1
  · rw [zup_t (by decide), eo 3 0 (by omega)]; exact h.g2
  · rw [zup_t (by decide), eo 4 0 (by omega)]; exact h.g3
  · rw [zup_t (by decide), eo 14 0 (by omega)]; exact h.g4
  · rw [zup_t (by decide), eo 21 0 (by omega)]; exact h.g5
  · rw [e5] at b
    unfold pS
    by_cases q : j = σ 5 0
    · rw [q, zup_s, n6, n8, n9, hx]
    · rw [zup_i q, ei 6 j (by omega) q, ei 8 j (by omega) q, ei 9 j (by omega) q]
      exact h.s ⟨a, by omega⟩
  · rw [eo 11 0 (by omega)] at b
    rw [zup_t (by decide), eo 13 j (by omega)]
    exact h.p ⟨a, b⟩
  · rw [eo 14 0 (by omega)] at b
    omega
theorem Rl_pilot {τ σ : zT} (h : Rl τ σ) (h14 : σ 14 0 = 0) {i a r : Int} (hi : σ 11 0 = i) : Rl (zup τ 2 i r) (zst_pilot σ a r) := by
  subst hi
  have eo : ∀ k j, (k < 11 ∨ 13 < k) → zst_pilot σ a r k j = σ k j := fun k j hk => by
    unfold zst_pilot
    rw [zup_t (by omega), zup_t (by omega), zup_t (by omega)]
  have e11 : zst_pilot σ a r 11 0 = σ 11 0 + 1 := by simp [zst_pilot, zup]
  have n13 : zst_pilot σ a r 13 (σ 11 0) = r := by simp [zst_pilot, zup]
  have ei : ∀ k j, 11 < k → j ≠ σ 11 0 → zst_pilot σ a r k j = σ k j := fun k j hk hj => by
    unfold zst_pilot
    rw [zup_t (by omega), zup_i hj, zup_i hj]
  refine ⟨⟨?_, ?_, ?_, ?_, ?_, ?_⟩, fun j x y => ?_, fun j x y => ?_, fun j x y => ?_⟩
  · rw [zup_t (by decide), eo 1 0 (by omega)]; exact h.g0
  · rw [zup_t (by decide), eo 2 0 (by omega)]; exact h.g1
  · rw [zup_t (by decide), eo 3 0 (by omega)]; exact h.g2
  · rw [zup_t (by decide), eo 4 0 (by omega)]; exact h.g3
  · rw [zup_t (by decide), eo 14 0 (by omega)]; exact h.g4
  · rw [zup_t (by decide), eo 21 0 (by omega)]; exact h.g5
  · rw [eo 5 0 (by omega)] at y
    unfold pS
    rw [zup_t (by decide), eo 6 j (by omega), eo 8 j (by omega), eo 9 j (by omega)]
    exact h.s ⟨x, y⟩
  · rw [e11] at y
    by_cases q : j = σ 11 0
    · rw [q, zup_s, n13]
    · rw [zup_i q, ei 13 j (by omega) q]
      exact h.p ⟨x, by omega⟩
  · rw [eo 14 0 (by omega)] at y
    omega
theorem Rl_0 {τ : zT} (h : τ 0 0 = 0 ∧ τ 0 1 = 100 ∧ τ 0 2 = 40 ∧ τ 0 3 = 2 ∧ τ 0 4 = 0 ∧ τ 0 5 = 0) : Rl τ zInit := ⟨h, fun i a b => by have b : i < 0 := b; omega, fun i a b => by have b : i < 0 := b; omega, fun i a b => by have b : i < 0 := b; omega⟩
