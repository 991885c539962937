/-! bills: what all ships owe is what the done moves cost -/
theorem zSum_add2 (f g : Int → Int) : ∀ n : Nat, zSum (fun c => f c + g c) n = zSum f n + zSum g n
  | 0 => rfl
  | n + 1 => by rw [zSum_s, zSum_s, zSum_s, zSum_add2 f g n]; omega
theorem zSum_swap (f : Int → Int → Int) (m : Nat) : ∀ n : Nat, zSum (fun i => zSum (fun c => f i c) m) n = zSum (fun c => zSum (fun i => f i c) n) m
  | 0 => (zSum_z (fun c _ _ => rfl)).symm
  | n + 1 => by
    rw [zSum_s, zSum_swap f m n, ← zSum_add2]
    rfl
theorem zSum_pick0 {a v : Int} : ∀ {n : Nat}, (n : Int) ≤ a → zSum (fun i => if a = i then v else 0) n = 0
  | 0, _ => rfl
  | n + 1, h => by rw [zSum_s, zSum_pick0 (n := n) (by omega), if_neg (by omega)]; rfl
theorem zSum_pick {a v : Int} : ∀ {n : Nat}, 0 ≤ a → a < (n : Int) → zSum (fun i => if a = i then v else 0) n = v
  | 0, h1, h2 => by omega
  | n + 1, h1, h2 => by
    rw [zSum_s]
    by_cases q : a = n
    · rw [if_pos q, zSum_pick0 (by omega)]; omega
    · rw [if_neg q, zSum_pick (n := n) h1 (by omega)]; omega
def zDB (σ : zT) (c : Int) : Int := if σ 19 c = 4 then zBill σ c else 0
def zInv4 (σ : zT) : Prop := zSum (σ 10) (σ 5 0).toNat = zSum (zDB σ) (σ 14 0).toNat
theorem zInv4.eq {σ σ' : zT} (h : zInv4 σ) (e5 : σ' 5 0 = σ 5 0) (e10 : ∀ i, σ' 10 i = σ 10 i) (e14 : σ' 14 0 = σ 14 0) (e : ∀ c, 0 ≤ c → c < σ 14 0 → (σ' 19 c = 4 ↔ σ 19 c = 4) ∧ (σ 19 c = 4 → zBill σ' c = zBill σ c)) : zInv4 σ' := by
  unfold zInv4
  rw [e5, e14, show σ' 10 = σ 10 from funext e10, show zSum (σ 10) (σ 5 0).toNat = _ from h]
  refine zSum_eq (fun c a b => ?_)
  have q := e c a (by omega)
  unfold zDB
  by_cases z : σ 19 c = 4
  · rw [if_pos z, if_pos (q.1.mpr z), q.2 z]
  · rw [if_neg z, if_neg (fun w => z (q.1.mp w))]
/-- the law's own table: six ships, four pilots -/
def zLaw (σ : zT) : Prop := zAll σ ∧ zInv4 σ ∧ (σ 5 0 = 6 ∧ σ 11 0 = 4 ∧ σ 14 0 ≤ 10) ∧ (∀ i, 0 ≤ i → i < 6 → σ 7 i = 100 * i + 1) ∧ ∀ i, 0 ≤ i → i < 4 → σ 12 i = if i = 3 then 201 else 9999
theorem zLaw.b {σ : zT} (h : zLaw σ) : zB σ := ⟨by rw [h.2.2.1.1]; decide, by rw [h.2.2.1.2.1]; decide, h.2.2.1.2.2⟩
theorem zLaw.i {σ : zT} (h : zLaw σ) : zInv σ := h.1.1
theorem zLaw.j {σ : zT} (h : zLaw σ) : zInv2 σ := h.1.2.1
theorem zLaw.n {σ : zT} (h : zLaw σ) : σ 5 0 = 6 ∧ σ 11 0 = 4 ∧ σ 14 0 ≤ 10 := h.2.2.1
theorem zLaw.step {σ σ' : zT} (h : zLaw σ) (ha : zAll σ') (h4 : zInv4 σ') (e5 : σ' 5 0 = σ 5 0) (e11 : σ' 11 0 = σ 11 0) (n14 : σ' 14 0 ≤ 10) (e7 : ∀ i, σ' 7 i = σ 7 i) (e12 : ∀ i, σ' 12 i = σ 12 i) : zLaw σ' :=
  ⟨ha, h4, ⟨by rw [e5]; exact h.2.2.1.1, by rw [e11]; exact h.2.2.1.2.1, n14⟩, fun i a b => by rw [e7]; exact h.2.2.2.1 i a b, fun i a b => by rw [e12]; exact h.2.2.2.2 i a b⟩
theorem zBill_eq {σ σ' : zT} {c : Int} (e8 : ∀ i, σ' 8 i = σ 8 i) (e9 : ∀ i, σ' 9 i = σ 9 i) (e13 : ∀ i, σ' 13 i = σ 13 i) (e15 : σ' 15 c = σ 15 c) (e18 : σ' 18 c = σ 18 c) : zBill σ' c = zBill σ c := by
  unfold zBill
  rw [e15, e18, e8, e9, e13]
theorem zLaw_tide {σ : zT} (h : zLaw σ) {d r : Int} (ht : zth_tide d r = 0) : zLaw (zst_tide σ d r) := by
  have e : ∀ k i, k ≠ 2 → k ≠ 3 → zst_tide σ d r k i = σ k i := fun k i a b => by unfold zst_tide; rw [zup_t b, zup_t a]
  refine h.step (zAll_tide h.1 ht) (h.2.1.eq (e 5 0 (by decide) (by decide)) (fun i => e 10 i (by decide) (by decide)) (e 14 0 (by decide) (by decide)) (fun c _ _ => ⟨by rw [e 19 c (by decide) (by decide)], fun _ => rfl⟩)) (e 5 0 (by decide) (by decide)) (e 11 0 (by decide) (by decide)) (by rw [e 14 0 (by decide) (by decide)]; exact h.n.2.2) (fun i => e 7 i (by decide) (by decide)) (fun i => e 12 i (by decide) (by decide))
theorem zLaw_tugs {σ : zT} (h : zLaw σ) {n : Int} (ht : zth_tugs n = 0) : zLaw (zst_tugs σ n) := by
  have e : ∀ k i, k ≠ 4 → zst_tugs σ n k i = σ k i := fun k i a => zup_t a
  refine h.step (zAll_tugs h.1 ht) (h.2.1.eq (e 5 0 (by decide)) (fun i => e 10 i (by decide)) (e 14 0 (by decide)) (fun c _ _ => ⟨by rw [e 19 c (by decide)], fun _ => rfl⟩)) (e 5 0 (by decide)) (e 11 0 (by decide)) (by rw [e 14 0 (by decide)]; exact h.n.2.2) (fun i => e 7 i (by decide)) (fun i => e 12 i (by decide))
theorem zLaw_call {σ : zT} (h : zLaw σ) {k w : Int} (ht : zth_call σ k w = 0) (hn : σ 14 0 < 10) : zLaw (zst_call σ k w) := by
  have f0 := h.i.r
  have e14 : zst_call σ k w 14 0 = σ 14 0 + 1 := by simp [zst_call, zup]
  have ei : ∀ q j, q ≠ 14 → j ≠ σ 14 0 → zst_call σ k w q j = σ q j := fun q j hq hj => by
    unfold zst_call
    rw [zup_t hq, zup_i hj, zup_i hj, zup_i hj, zup_i hj, zup_i hj]
  have eo : ∀ q j, q < 14 → zst_call σ k w q j = σ q j := fun q j a => by
    unfold zst_call
    rw [zup_t (by omega), zup_t (by omega), zup_t (by omega), zup_t (by omega), zup_t (by omega), zup_t (by omega)]
  have n19 : zst_call σ k w 19 (σ 14 0) = 0 := by simp [zst_call, zup]
  refine h.step (zAll_call h.1 ht) ?_ (eo 5 0 (by decide)) (eo 11 0 (by decide)) (by rw [e14]; omega) (fun i => eo 7 i (by decide)) (fun i => eo 12 i (by decide))
  unfold zInv4
  rw [e14, zSum_i _ (by omega), eo 5 0 (by decide), show zst_call σ k w 10 = σ 10 from funext (fun i => eo 10 i (by decide)), show zSum (σ 10) (σ 5 0).toNat = _ from h.2.1]
  have e0 : zDB (zst_call σ k w) (σ 14 0) = 0 := by unfold zDB; rw [n19, if_neg (by decide)]
  rw [e0, Int.add_zero]
  refine zSum_eq (fun c a b => ?_)
  unfold zDB
  rw [ei 19 c (by decide) (by omega), zBill_eq (fun i => eo 8 i (by decide)) (fun i => eo 9 i (by decide)) (fun i => eo 13 i (by decide)) (ei 15 c (by decide) (by omega)) (ei 18 c (by decide) (by omega))]
theorem zLook_4 {σ : zT} {k c : Int} (hk : σ 19 k ≠ 4) : zLook σ k 19 c = 4 ↔ σ 19 c = 4 := by
  by_cases q : c = k
  · rw [q, zLook_19]
    constructor
    · intro z
      split at z
      · omega
      · split at z <;> omega
    · intro z; exact absurd z hk
  · rw [zLook_i q]
theorem zBill_look {σ : zT} {k c : Int} : zBill (zLook σ k) c = zBill σ c := zBill_eq (fun i => zLook_o (by decide) (by decide)) (fun i => zLook_o (by decide) (by decide)) (fun i => zLook_o (by decide) (by decide)) (zLook_o (by decide) (by decide)) (zLook_o (by decide) (by decide))
theorem zInv4_look {σ : zT} (h : zInv4 σ) {k : Int} (hk : σ 19 k ≠ 4) : zInv4 (zLook σ k) := h.eq (zLook_o (by decide) (by decide)) (fun i => zLook_o (by decide) (by decide)) (zLook_o (by decide) (by decide)) (fun c _ _ => ⟨zLook_4 hk, fun _ => zBill_look⟩)
theorem zLaw_again {σ : zT} (h : zLaw σ) {k : Int} (ht : zth_again σ k = 0) : zLaw (zst_again σ k) := by
  have hr : σ 19 k = 1 := by
    unfold zth_again at ht
    split at ht
    · omega
    · split at ht
      · rename_i b; exact b
      · omega
  have o : ∀ t i, t ≠ 19 → t ≠ 20 → zst_again σ k t i = σ t i := fun t i a b => zLook_o a b
  exact h.step (zAll_again h.1 ht) (zInv4_look h.2.1 (by omega)) (o 5 0 (by decide) (by decide)) (o 11 0 (by decide) (by decide)) (by rw [o 14 0 (by decide) (by decide)]; exact h.n.2.2) (fun i => o 7 i (by decide) (by decide)) (fun i => o 12 i (by decide) (by decide))
theorem zInv4_own {σ τ : zT} {k : Int} (h : zInv4 σ) (e : ∀ t i, (t < 17 ∨ 20 < t ∨ i ≠ k) → τ t i = σ t i) (h19 : σ 19 k ≠ 4) (n19 : τ 19 k ≠ 4) : zInv4 τ := by
  refine h.eq (e 5 0 (by omega)) (fun i => e 10 i (by omega)) (e 14 0 (by omega)) (fun c _ _ => ?_)
  by_cases q : c = k
  · subst q
    exact ⟨⟨fun z => absurd z n19, fun z => absurd z h19⟩, fun z => absurd z h19⟩
  · exact ⟨by rw [e 19 c (by omega)], fun _ => zBill_eq (fun i => e 8 i (by omega)) (fun i => e 9 i (by omega)) (fun i => e 13 i (by omega)) (e 15 c (by omega)) (e 18 c (by omega))⟩
theorem zst_join_o {σ : zT} {k w q : Int} {t : Nat} {i : Int} (h : t < 17 ∨ 20 < t) : zst_join σ k w q t i = σ t i := by
  unfold zst_join
  split
  · rw [zLook_o (by omega) (by omega), zjn_e σ k w q t i (Or.inl (by omega))]
  · exact zjn_e σ k w q t i (Or.inl (by omega))
theorem zLaw_join {σ : zT} (h : zLaw σ) {k w q : Int} (ht : zth_join σ k w q = 0) : zLaw (zst_join σ k w q) := by
  have hr : ((0 ≤ k ∧ k < σ 14 0) ∧ (0 ≤ w ∧ w ≤ 2)) ∧ zBit (σ 17 k) w ≠ 1 := by
    unfold zth_join at ht
    split at ht
    · omega
    · rename_i a
      split at ht
      · omega
      · rename_i b; exact ⟨⟨(Classical.not_not.mp a).1, (Classical.not_not.mp a).2.1⟩, fun z => b (Or.inl z)⟩
  have jk := h.j.c hr.1.1
  have fk := h.i.c hr.1.1
  have n7 : σ 17 k ≠ 7 := fun z => hr.2 (by rw [z]; exact zBit_7 hr.1.2)
  have s0 : σ 19 k = 0 := by omega
  have t19 : zjn σ k w q 19 k = σ 19 k := zjn_e σ k w q 19 k (Or.inl (by decide))
  have h4 : zInv4 (zjn σ k w q) := zInv4_own (k := k) h.2.1 (fun t i c => zjn_e σ k w q t i (by omega)) (by omega) (by rw [t19]; omega)
  have o : ∀ t i, (t < 17 ∨ 20 < t) → zst_join σ k w q t i = σ t i := fun t i a => zst_join_o a
  refine h.step (zAll_join h.1 ht) ?_ (o 5 0 (by omega)) (o 11 0 (by omega)) (by rw [o 14 0 (by omega)]; exact h.n.2.2) (fun i => o 7 i (by omega)) (fun i => o 12 i (by omega))
  unfold zst_join
  split
  · exact zInv4_look h4 (by rw [t19]; omega)
  · exact h4
theorem zInv4_drops {σ : zT} (h : zInv4 σ) : ∀ n : Nat, zInv4 (zDrops σ n).1
  | 0 => h
  | n + 1 => by
    have ih := zInv4_drops h n
    unfold zDrops
    split
    · rename_i z
      exact zInv4_look ih (by omega)
    · exact ih
theorem zdr_e (σ : zT) (k w : Int) (t : Nat) (i : Int) (h : t < 17 ∨ 20 < t ∨ i ≠ k) : zdr σ k w t i = σ t i := by
  unfold zdr
  by_cases q : i = k
  · rw [zup_t (by omega), zup_t (by omega), zup_t (by omega), zup_t (by omega)]
  · rw [zup_i q, zup_i q, zup_i q, zup_i q]
theorem zdr_19 (σ : zT) (k w : Int) : zdr σ k w 19 k = 0 := by unfold zdr; rw [zup_s]
theorem zst_drop_o {σ : zT} {k w : Int} {t : Nat} {i : Int} (h : t < 17 ∨ 21 < t) : zst_drop σ k w t i = σ t i := by
  unfold zst_drop
  rw [zup_t (by omega)]
  split
  · rw [zDrops_o (by omega) (by omega), zdr_e σ k w t i (by omega)]
  · exact zdr_e σ k w t i (by omega)
theorem zLaw_drop {σ : zT} (h : zLaw σ) {k w : Int} (ht : zth_drop σ k w = 0) : zLaw (zst_drop σ k w) := by
  have hr : σ 19 k < 3 := by
    unfold zth_drop at ht
    split at ht
    · omega
    · split at ht
      · omega
      · omega
  have h4 : zInv4 (zdr σ k w) := zInv4_own (k := k) h.2.1 (fun t i c => zdr_e σ k w t i c) (by omega) (by rw [zdr_19]; decide)
  have o : ∀ t i, (t < 17 ∨ 21 < t) → zst_drop σ k w t i = σ t i := fun t i a => zst_drop_o a
  refine h.step (zAll_drop h.1 ht) ?_ (o 5 0 (by omega)) (o 11 0 (by omega)) (by rw [o 14 0 (by omega)]; exact h.n.2.2) (fun i => o 7 i (by omega)) (fun i => o 12 i (by omega))
  unfold zst_drop
  have h5 : zInv4 (if σ 19 k = 2 then (zDrops (zdr σ k w) (σ 14 0).toNat).1 else zdr σ k w) := by
    split
    · exact zInv4_drops h4 _
    · exact h4
  exact h5.eq (zup_t (by decide)) (fun i => zup_t (by decide)) (zup_t (by decide)) (fun c _ _ => ⟨by rw [zup_t (by decide)], fun _ => rfl⟩)
theorem zLaw_pass {σ : zT} (h : zLaw σ) {n : Int} (ht : zth_pass σ n = 0) : zLaw (zst_pass σ n) := by
  have f0 := h.i.r
  have hr : 1 ≤ n ∧ σ 1 0 + n ≤ 20000 := by
    unfold zth_pass at ht
    split at ht
    · omega
    · split at ht <;> omega
  have o : ∀ t i, t ≠ 1 → t ≠ 19 → t ≠ 10 → t ≠ 30 → t ≠ 31 → zst_pass σ n t i = σ t i := fun t i a b c d e => zAdv_o ⟨a, b, c, d, e⟩
  refine h.step (zAll_pass h.1 ht) ?_ (o 5 0 (by decide) (by decide) (by decide) (by decide) (by decide)) (o 11 0 (by decide) (by decide) (by decide) (by decide) (by decide)) (by rw [o 14 0 (by decide) (by decide) (by decide) (by decide) (by decide)]; exact h.n.2.2) (fun i => o 7 i (by decide) (by decide) (by decide) (by decide) (by decide)) (fun i => o 12 i (by decide) (by decide) (by decide) (by decide) (by decide))
  unfold zInv4
  rw [o 5 0 (by decide) (by decide) (by decide) (by decide) (by decide), o 14 0 (by decide) (by decide) (by decide) (by decide) (by decide)]
  have e10 : zst_pass σ n 10 = fun j => σ 10 j + zSum (fun c => zNewV σ (σ 1 0 + n) c (σ 15 c = j) (zBill σ c)) (σ 14 0).toNat := rfl
  rw [e10, zSum_add2, zSum_swap (fun j c => zNewV σ (σ 1 0 + n) c (σ 15 c = j) (zBill σ c)), show zSum (σ 10) (σ 5 0).toNat = _ from h.2.1, ← zSum_add2]
  refine zSum_eq (fun c a b => ?_)
  have hc : 0 ≤ c ∧ c < σ 14 0 := ⟨a, by omega⟩
  have fc := h.i.c hc
  have gc := h.i.s (i := σ 15 c) (by omega)
  have q := zStW h.i h.j (t := σ 1 0 + n) (by omega) hc
  have eb : zBill (zst_pass σ n) c = zBill σ c := rfl
  have e19 : zst_pass σ n 19 c = zSt σ (σ 14 0) (σ 1 0 + n) c := rfl
  unfold zDB
  rw [eb, e19]
  by_cases z : (σ 19 c = 2 ∨ σ 19 c = 3) ∧ σ 20 c + σ 8 (σ 15 c) ≤ σ 1 0 + n
  · have s1 : zSum (fun i => zNewV σ (σ 1 0 + n) c (σ 15 c = i) (zBill σ c)) (σ 5 0).toNat = zBill σ c := by
      rw [show (fun i => zNewV σ (σ 1 0 + n) c (σ 15 c = i) (zBill σ c)) = fun i => if σ 15 c = i then zBill σ c else 0 from funext fun i => by
        by_cases w : σ 15 c = i
        · rw [zNewV_t z w, if_pos w]
        · rw [zNewV_p w, if_neg w]]
      exact zSum_pick fc.1.1 (by omega)
    rw [s1, if_neg (by omega), if_pos (by omega)]; omega
  · have s1 : zSum (fun i => zNewV σ (σ 1 0 + n) c (σ 15 c = i) (zBill σ c)) (σ 5 0).toNat = 0 := zSum_z (fun i _ _ => zNewV_f z)
    rw [s1]
    by_cases w : σ 19 c = 4
    · rw [if_pos w, if_pos (by omega)]; omega
    · rw [if_neg w, if_neg (by omega)]; rfl
/-- the same, pilot by pilot -/
def zPB (σ : zT) (j : Int) : Int := zSum (fun c => zP1 σ j 4 (100 * σ 9 (σ 15 c)) c) (σ 14 0).toNat + zSum (fun c => zP1 σ j 4 (σ 8 (σ 15 c) * σ 13 j) c) (σ 14 0).toNat
theorem zPB_all {σ : zT} (h : zLaw σ) : zSum (zPB σ) 4 = zSum (σ 10) 6 := by
  have f0 := h.i.r
  have e6 : (σ 5 0).toNat = 6 := by have := h.n; omega
  have h4 := h.2.1
  unfold zInv4 at h4
  rw [e6] at h4
  rw [h4]
  have e : zPB σ = fun j => zSum (fun c => zP1 σ j 4 (100 * σ 9 (σ 15 c)) c + zP1 σ j 4 (σ 8 (σ 15 c) * σ 13 j) c) (σ 14 0).toNat := funext fun j => (zSum_add2 _ _ _).symm
  rw [e, zSum_swap (fun j c => zP1 σ j 4 (100 * σ 9 (σ 15 c)) c + zP1 σ j 4 (σ 8 (σ 15 c) * σ 13 j) c)]
  refine zSum_eq (fun c a b => ?_)
  have hc : 0 ≤ c ∧ c < σ 14 0 := ⟨a, by omega⟩
  have fc := h.i.c hc
  have nn := h.n
  unfold zDB
  by_cases z : σ 19 c = 4
  · have pc := h.j.p hc (by omega)
    rw [if_pos z, show (fun j => zP1 σ j 4 (100 * σ 9 (σ 15 c)) c + zP1 σ j 4 (σ 8 (σ 15 c) * σ 13 j) c) = fun j => if σ 18 c = j then zBill σ c else 0 from funext fun j => by
      unfold zP1 zBill
      by_cases w : σ 18 c = j
      · rw [if_pos ⟨w, z⟩, if_pos ⟨w, z⟩, if_pos w, w]; omega
      · rw [if_neg (fun y => w y.1), if_neg (fun y => w y.1), if_neg w]; rfl]
    exact zSum_pick pc (by omega)
  · rw [if_neg z]
    refine zSum_z (fun j _ _ => ?_)
    unfold zP1
    rw [if_neg (fun y => z y.2), if_neg (fun y => z y.2)]; rfl
