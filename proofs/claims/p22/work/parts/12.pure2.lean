/-! plain facts: searches, looking, dropping -/
theorem zSrch_ti {P : Int → Prop} {a t : Int} (ha : 0 < a) (h : P t) : zSrch P a.toNat t = t := by
  have e : a.toNat = (a - 1).toNat + 1 := by omega
  rw [e]; unfold zSrch; exact if_pos h
theorem zSrch_fi {P : Int → Prop} {a t : Int} (ha : 0 < a) (h : ¬ P t) : zSrch P a.toNat t = zSrch P (a - 1).toNat (t + 1) := by
  have e : a.toNat = (a - 1).toNat + 1 := by omega
  rw [e]; exact if_neg h
theorem zSrch_0 {P : Int → Prop} {a t : Int} (ha : a ≤ 0) : zSrch P a.toNat t = -1 := by
  have e : a.toNat = 0 := by omega
  rw [e]; rfl
theorem zSrch_r {P : Int → Prop} : ∀ (n : Nat) (t : Int), (zSrch P n t = -1 ∧ ∀ m, t ≤ m → m < t + n → ¬ P m) ∨ (t ≤ zSrch P n t ∧ zSrch P n t < t + n ∧ P (zSrch P n t))
  | 0, t => Or.inl ⟨rfl, fun m a b => absurd b (by omega)⟩
  | n + 1, t => by
    by_cases h : P t
    · have e : zSrch P (n + 1) t = t := if_pos h
      rw [e]; exact Or.inr ⟨by omega, by omega, h⟩
    · have e : zSrch P (n + 1) t = zSrch P n (t + 1) := if_neg h
      rw [e]
      rcases zSrch_r n (t + 1) with q | q
      · exact Or.inl ⟨q.1, fun m a b => if g : m = t then by rw [g]; exact h else q.2 m (by omega) (by omega)⟩
      · exact Or.inr ⟨by omega, by omega, q.2.2⟩
/-- the search is the least that does -/
theorem zSrch_is {P : Int → Prop} : ∀ (n : Nat) (t z : Int), t ≤ z → z < t + n → P z → (∀ m, t ≤ m → m < z → ¬ P m) → zSrch P n t = z
  | 0, t, z, a, b, _, _ => by omega
  | n + 1, t, z, a, b, hp, hn => by
    by_cases g : t = z
    · have e : zSrch P (n + 1) t = t := if_pos (by rw [g]; exact hp)
      rw [e, g]
    · have e : zSrch P (n + 1) t = zSrch P n (t + 1) := if_neg (hn t (by omega) (by omega))
      rw [e]
      exact zSrch_is n (t + 1) z (by omega) (by omega) hp (fun m x y => hn m (by omega) y)
theorem zSrch_no {P : Int → Prop} {n : Nat} {t : Int} (h : ∀ m, t ≤ m → m < t + n → ¬ P m) : zSrch P n t = -1 := by
  rcases zSrch_r (P := P) n t with q | q
  · exact q.1
  · exact absurd q.2.2 (h _ q.1 q.2.1)
/-- looking: where the slot may lie -/
theorem zFind_r {σ : zT} (hI : zInv σ) {k : Int} (hk : 0 ≤ k ∧ k < σ 14 0) : zFind σ k = -1 ∨ (σ 1 0 ≤ zFind σ k ∧ zFind σ k ≤ 21440 ∧ σ 16 k ≤ zFind σ k ∧ zOk σ k (zFind σ k)) := by
  have f := hI.r
  have g := hI.c hk
  rcases zSrch_r (P := zOk σ k) 1441 (if σ 1 0 < σ 16 k then σ 16 k else σ 1 0) with q | q
  · exact Or.inl q.1
  · refine Or.inr ?_
    have e : zFind σ k = zSrch (zOk σ k) 1441 (if σ 1 0 < σ 16 k then σ 16 k else σ 1 0) := rfl
    rw [← e] at q
    obtain ⟨q1, q2, q3⟩ := q
    split at q1 <;> split at q2 <;> first | (exact ⟨by omega, by omega, by omega, q3⟩) | omega
theorem zInv_17 {σ : zT} (h : zInv σ) {k x : Int} (hx : 0 ≤ x ∧ x ≤ 7) : zInv (zup σ 17 k x) := by
  refine ⟨h.1, h.2.1, h.2.2.1, fun i h1 h2 => ?_⟩
  have g := h.c (i := i) ⟨h1, h2⟩
  refine ⟨g.1, g.2.1, ?_, g.2.2.2.1, g.2.2.2.2⟩
  show 0 ≤ zup σ 17 k x 17 i ∧ zup σ 17 k x 17 i ≤ 7
  by_cases e : i = k
  · rw [e, zup_s]; exact hx
  · rw [zup_i e]; exact g.2.2.1
theorem zInv_18 {σ : zT} (h : zInv σ) {k x : Int} (hx : -1 ≤ x ∧ x < σ 11 0) : zInv (zup σ 18 k x) := by
  refine ⟨h.1, h.2.1, h.2.2.1, fun i h1 h2 => ?_⟩
  have g := h.c (i := i) ⟨h1, h2⟩
  refine ⟨g.1, g.2.1, g.2.2.1, ?_, g.2.2.2.2⟩
  show -1 ≤ zup σ 18 k x 18 i ∧ zup σ 18 k x 18 i < σ 11 0
  by_cases e : i = k
  · rw [e, zup_s]; exact hx
  · rw [zup_i e]; exact g.2.2.2.1
/-- slot and state together -/
theorem zInv_ss {σ : zT} (h : zInv σ) {k x y : Int} (hx : (-1 ≤ x ∧ x ≤ 21440) ∧ (0 ≤ y ∧ y ≤ 4) ∧ (2 ≤ y ↔ 0 ≤ x)) : zInv (zup (zup σ 20 k x) 19 k y) := by
  refine ⟨h.1, h.2.1, h.2.2.1, fun i h1 h2 => ?_⟩
  have g := h.c (i := i) ⟨h1, h2⟩
  refine ⟨g.1, g.2.1, g.2.2.1, g.2.2.2.1, ?_⟩
  show (0 ≤ zup (zup σ 20 k x) 19 k y 19 i ∧ zup (zup σ 20 k x) 19 k y 19 i ≤ 4) ∧ (-1 ≤ zup (zup σ 20 k x) 19 k y 20 i ∧ zup (zup σ 20 k x) 19 k y 20 i ≤ 21440) ∧ (2 ≤ zup (zup σ 20 k x) 19 k y 19 i ↔ 0 ≤ zup (zup σ 20 k x) 19 k y 20 i)
  by_cases e : i = k
  · rw [e, zup_s, zup_t (t := 19) (t' := 20) (by decide), zup_s]; omega
  · rw [zup_i e, zup_i e, zup_i e, zup_i e]; exact g.2.2.2.2
theorem zInv_look {σ : zT} (h : zInv σ) {k : Int} (hk : 0 ≤ k ∧ k < σ 14 0) : zInv (zLook σ k) := by
  have f := h.r
  have q := zFind_r h hk
  unfold zLook
  refine zInv_ss h ?_
  split
  · omega
  · split <;> omega
theorem zLook_o {σ : zT} {k : Int} {t : Nat} {i : Int} (h1 : t ≠ 19) (h2 : t ≠ 20) : zLook σ k t i = σ t i := by
  unfold zLook; rw [zup_t h1, zup_t h2]
theorem zLook_i {σ : zT} {k : Int} {t : Nat} {i : Int} (h : i ≠ k) : zLook σ k t i = σ t i := by
  unfold zLook; rw [zup_i h, zup_i h]
/-- what k holds itself doesn't matter to its search -/
theorem zOk_own {σ τ : zT} {k t : Int} (h : ∀ (j : Nat) (i : Int), j ≠ 0 → (i ≠ k ∨ (j ≠ 19 ∧ j ≠ 20)) → τ j i = σ j i) : zOk τ k t ↔ zOk σ k t := by
  have o : ∀ (j : Nat) (i : Int), j ≠ 0 → j ≠ 19 → j ≠ 20 → τ j i = σ j i := fun j i h0 h1 h2 => h j i h0 (Or.inr ⟨h1, h2⟩)
  have a1 : ∀ m, zLev τ m = zLev σ m := fun m => by unfold zLev; rw [o 3 0 (by decide) (by decide) (by decide)]
  have a2 : ∀ i, zTk τ i = zTk σ i := fun i => by unfold zTk; rw [o 15 i (by decide) (by decide) (by decide), o 8 _ (by decide) (by decide) (by decide)]
  have a3 : ∀ i, zNd τ i = zNd σ i := fun i => by unfold zNd; rw [o 15 i (by decide) (by decide) (by decide), o 9 _ (by decide) (by decide) (by decide)]
  have a4 : ∀ i, i ≠ k → zOv τ i = zOv σ i := fun i hi => by unfold zOv; rw [h 20 i (by decide) (Or.inl hi), a2]
  have b1 : zTideOk τ (τ 15 k) t ↔ zTideOk σ (σ 15 k) t := by
    unfold zTideOk
    simp only [a1, o 15 k (by decide) (by decide) (by decide), o 8 _ (by decide) (by decide) (by decide), o 6 _ (by decide) (by decide) (by decide), o 2 _ (by decide) (by decide) (by decide)]
  have b2 : zChanOk τ k t ↔ zChanOk σ k t := by
    unfold zChanOk zChanOk1
    rw [o 14 0 (by decide) (by decide) (by decide)]
    refine forall_congr' fun i => forall_congr' fun _ => forall_congr' fun _ => forall_congr' fun hi => ?_
    rw [h 19 i (by decide) (Or.inl hi), h 20 i (by decide) (Or.inl hi)]
  have b3 : zRestOk τ k t ↔ zRestOk σ k t := by
    unfold zRestOk zRestOk1
    rw [o 14 0 (by decide) (by decide) (by decide)]
    refine forall_congr' fun i => forall_congr' fun _ => forall_congr' fun _ => forall_congr' fun hi => ?_
    rw [h 19 i (by decide) (Or.inl hi), h 20 i (by decide) (Or.inl hi), o 18 i (by decide) (by decide) (by decide), o 18 k (by decide) (by decide) (by decide), a4 i hi, a2, a2]
  have c1 : ∀ m i, zTug1 τ k m i = zTug1 σ k m i := fun m i => by
    by_cases hi : i = k
    · unfold zTug1; rw [if_neg (fun q => q.1 hi), if_neg (fun q => q.1 hi)]
    · unfold zTug1; rw [h 19 i (by decide) (Or.inl hi), h 20 i (by decide) (Or.inl hi), a4 i hi, a3]
  have b4 : zTugOk τ k t ↔ zTugOk σ k t := by
    unfold zTugOk zTugs
    simp only [show zTug1 τ k = zTug1 σ k from funext fun m => funext fun i => c1 m i, a2, a3, o 14 0 (by decide) (by decide) (by decide), o 4 0 (by decide) (by decide) (by decide)]
  unfold zOk
  rw [b1, b2, b3, b4]
theorem zFind_own {σ τ : zT} {k : Int} (h : ∀ (j : Nat) (i : Int), j ≠ 0 → (i ≠ k ∨ (j ≠ 19 ∧ j ≠ 20)) → τ j i = σ j i) : zFind τ k = zFind σ k := by
  unfold zFind
  rw [show zOk τ k = zOk σ k from funext fun t => propext (zOk_own h), h 1 0 (by decide) (Or.inr ⟨by decide, by decide⟩), h 16 k (by decide) (Or.inr ⟨by decide, by decide⟩)]
/-- its own slot let go first: the same -/
theorem zLook_anew (σ : zT) (k x y : Int) : zLook (zup (zup σ 20 k x) 19 k y) k = zLook σ k := by
  have e : zFind (zup (zup σ 20 k x) 19 k y) k = zFind σ k := zFind_own (fun j i _ q => by
    rcases q with q | q
    · rw [zup_i q, zup_i q]
    · rw [zup_t q.1, zup_t q.2])
  unfold zLook
  rw [e, zup_t (σ := zup σ 20 k x) (t := 19) (t' := 1) (by decide), zup_t (σ := σ) (t := 20) (t' := 1) (by decide)]
  funext j i
  by_cases hj : j = 19 ∧ i = k
  · rw [hj.1, hj.2, zup_s, zup_s]
  · by_cases hj2 : j = 20 ∧ i = k
    · rw [hj2.1, hj2.2, zup_t (t := 19) (t' := 20) (by decide), zup_s, zup_t (t := 19) (t' := 20) (by decide), zup_s]
    · simp only [zup, if_neg hj, if_neg hj2]
theorem zDrops_o {σ : zT} {t : Nat} {i : Int} (h1 : t ≠ 19) (h2 : t ≠ 20) : ∀ n : Nat, (zDrops σ n).1 t i = σ t i
  | 0 => rfl
  | n + 1 => by
    unfold zDrops
    split
    · show zLook (zDrops σ n).1 n t i = _
      rw [zLook_o h1 h2, zDrops_o h1 h2 n]
    · exact zDrops_o h1 h2 n
theorem zInv_drops {σ : zT} (h : zInv σ) : ∀ n : Nat, (n : Int) ≤ σ 14 0 → zInv (zDrops σ n).1
  | 0, _ => h
  | n + 1, q => by
    have ih := zInv_drops h n (by omega)
    unfold zDrops
    split
    · exact zInv_look ih ⟨by omega, by rw [zDrops_o (by decide) (by decide)]; omega⟩
    · exact ih
theorem zDrops_i (σ : zT) {i : Int} (h : 0 ≤ i) : zDrops σ (i + 1).toNat = if (zDrops σ i.toNat).1 19 i = 1 ∨ (zDrops σ i.toNat).1 19 i = 2 then (zLook (zDrops σ i.toNat).1 i, (zDrops σ i.toNat).2 + (if zLook (zDrops σ i.toNat).1 i 20 i = (zDrops σ i.toNat).1 20 i then 0 else 1)) else zDrops σ i.toNat := by
  have e : (i + 1).toNat = i.toNat + 1 := by omega
  have e2 : ((i.toNat : Nat) : Int) = i := by omega
  rw [e]
  rw [zDrops.eq_2]
  rw [e2]
/-- a table that doesn't differ where it counts -/
theorem zRsd_i (σ : zT) (k : Int) {i : Int} (h : 0 ≤ i) : zRsd σ k (i + 1).toNat = if 2 ≤ σ 19 i ∧ σ 18 i = k ∧ zRsd σ k i.toNat < zOv σ i + zRest (zTk σ i) then zOv σ i + zRest (zTk σ i) else zRsd σ k i.toNat := by
  have e : (i + 1).toNat = i.toNat + 1 := by omega
  have e2 : ((i.toNat : Nat) : Int) = i := by omega
  rw [e, zRsd.eq_2, e2]
theorem zIf_t {P : Prop} {a b : Int} (h : P) : zIf P a b = a := if_pos h
theorem zIf_f {P : Prop} {a b : Int} (h : ¬ P) : zIf P a b = b := if_neg h
theorem zdr_14 (σ : zT) (k w : Int) : zdr σ k w 14 0 = σ 14 0 := rfl
theorem zdr_21 (σ : zT) (k w : Int) : zdr σ k w 21 0 = σ 21 0 := rfl
theorem zInv_dr {σ : zT} (h : zInv σ) {k w : Int} (hk : 0 ≤ k ∧ k < σ 14 0) (hw : 0 ≤ w ∧ w ≤ 2) : zInv (zdr σ k w) := by
  have g := h.c hk
  have f := h.r
  unfold zdr
  refine zInv_ss (zInv_18 (zInv_17 h (zClr_r g.2.2.1 hw)) ?_) (by omega)
  show -1 ≤ (if w = 2 then -1 else σ 18 k) ∧ (if w = 2 then -1 else σ 18 k) < σ 11 0
  split <;> omega
theorem zSh_r {x : Int} (h : 0 ≤ x ∧ x ≤ 7) (w : Int) : 0 ≤ zSh x w ∧ zSh x w ≤ 7 := by
  unfold zSh
  split
  · omega
  · split <;> omega
theorem zRsd_th (σ : zT) (k x : Int) : ∀ n : Nat, zRsd (zup σ 0 0 x) k n = zRsd σ k n
  | 0 => rfl
  | n + 1 => by
    rw [zRsd.eq_2, zRsd.eq_2, zRsd_th σ k x n]
    rfl
