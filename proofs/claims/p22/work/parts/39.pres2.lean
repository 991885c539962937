/-! every call keeps what holds of the table: again, join, drop, pass -/
theorem zLook_19 (σ : zT) (k : Int) : zLook σ k 19 k = (if zFind σ k = -1 then 1 else if zFind σ k = σ 1 0 then 3 else 2) := zup_s _ _ _ _
theorem zAll_look {σ : zT} {k : Int} (hI : zInv σ) (hk : 0 ≤ k ∧ k < σ 14 0) (h2 : ∀ i, 0 ≤ i → i < σ 14 0 → i ≠ k → zRd σ i) (h17 : σ 17 k = 7) (hb : zBit (σ 17 k) 2 = 1 ↔ 0 ≤ σ 18 k) (h19 : σ 19 k ≠ 4) (h3 : zInv3 σ) (h4 : zUn σ) : zAll (zLook σ k) := by
  have zf := zFind_r hI hk
  have fk := hI.c hk
  have gk := hI.s (i := σ 15 k) (by omega)
  have f0 := hI.r
  have o : ∀ t i, t ≠ 19 → t ≠ 20 → zLook σ k t i = σ t i := fun t i a b => zLook_o a b
  have n19 : zLook σ k 19 k ≠ 4 := by
    rw [zLook_19]
    split
    · omega
    · split <;> omega
  refine ⟨zInv_look hI hk, fun i a b => ?_, fun i a b => ?_, ?_⟩
  · rw [o 14 0 (by decide) (by decide)] at b
    by_cases q : i = k
    · subst q
      unfold zRd zOv zTk
      rw [o 1 0 (by decide) (by decide), o 15 i (by decide) (by decide), o 8 _ (by decide) (by decide), o 17 i (by decide) (by decide), o 18 i (by decide) (by decide), zLook_20, zLook_19, h17]
      rw [h17] at hb
      split
      · exact ⟨by omega, by omega, by omega, by omega, hb⟩
      · split
        · exact ⟨by omega, by omega, by omega, by omega, hb⟩
        · exact ⟨by omega, by omega, by omega, by omega, hb⟩
    · unfold zRd zOv zTk
      rw [o 1 0 (by decide) (by decide), o 15 i (by decide) (by decide), o 8 _ (by decide) (by decide), o 17 i (by decide) (by decide), o 18 i (by decide) (by decide), zLook_i q, zLook_i q]
      exact h2 i a b q
  · rw [o 11 0 (by decide) (by decide)] at b
    have e := h3 i a b
    rw [o 30 i (by decide) (by decide), o 31 i (by decide) (by decide), o 14 0 (by decide) (by decide), e.1, e.2]
    have s : ∀ c v, zP1 σ i 4 v c = zP1 (zLook σ k) i 4 v c := fun c v => by
      unfold zP1
      rw [o 18 c (by decide) (by decide)]
      by_cases q : c = k
      · rw [q, if_neg (fun z => h19 z.2), if_neg (fun z => n19 z.2)]
      · rw [zLook_i q]
    refine ⟨zSum_eq (fun c _ _ => s c 1), zSum_eq (fun c _ _ => ?_)⟩
    rw [s, o 15 c (by decide) (by decide), o 8 _ (by decide) (by decide)]
  · unfold zUn
    rw [o 5 0 (by decide) (by decide), o 11 0 (by decide) (by decide), o 14 0 (by decide) (by decide)]
    refine ⟨fun i a => ?_, fun i a => ?_, fun i a => ?_⟩
    · rw [o 10 i (by decide) (by decide)]; exact h4.1 i a
    · rw [o 30 i (by decide) (by decide), o 31 i (by decide) (by decide)]; exact h4.2.1 i a
    · rw [o 17 i (by decide) (by decide)]; exact h4.2.2 i a
theorem zAll_again {σ : zT} (h : zAll σ) {k : Int} (ht : zth_again σ k = 0) : zAll (zst_again σ k) := by
  have hr : (0 ≤ k ∧ k < σ 14 0) ∧ σ 19 k = 1 := by
    unfold zth_again at ht
    split at ht
    · omega
    · split at ht
      · rename_i a b; exact ⟨by omega, b⟩
      · omega
  have j := h.2.1.c hr.1
  exact zAll_look h.1 hr.1 (fun i a b _ => h.2.1 i a b) (j.2.2.2.1.mp (by omega)) j.2.2.2.2 (by omega) h.2.2.1 h.2.2.2
theorem zBit_7 {w : Int} (hw : 0 ≤ w ∧ w ≤ 2) : zBit 7 w = 1 := zSmall (P := fun _ w => zBit 7 w = 1) (by decide +kernel) (x := 0) (by omega) hw
theorem zClr_7 {x w : Int} (hx : 0 ≤ x ∧ x ≤ 7) (hw : 0 ≤ w ∧ w ≤ 2) : zBit x w = 1 → zClr x w ≠ 7 := zSmall (P := fun x w => zBit x w = 1 → zClr x w ≠ 7) (by decide +kernel) hx hw
theorem zClr_b {x w : Int} (hx : 0 ≤ x ∧ x ≤ 7) (hw : 0 ≤ w ∧ w ≤ 2) : zBit (zClr x w) 2 = if w = 2 then 0 else zBit x 2 := zSmall (P := fun x w => zBit (zClr x w) 2 = if w = 2 then 0 else zBit x 2) (by decide +kernel) hx hw
/-- a conference's own numbers alone are others -/
theorem zAll_own {σ τ : zT} {k : Int} (h : zAll σ) (hk : 0 ≤ k ∧ k < σ 14 0) (hI : zInv τ) (e : ∀ t i, (t < 17 ∨ 20 < t ∨ i ≠ k) → τ t i = σ t i) (hR : zRd τ k) (h19 : σ 19 k ≠ 4) (n19 : τ 19 k ≠ 4) : zAll τ := by
  obtain ⟨h1, h2, h3, h4⟩ := h
  refine ⟨hI, fun i a b => ?_, fun i a b => ?_, ?_⟩
  · rw [e 14 0 (by omega)] at b
    by_cases q : i = k
    · rw [q]; exact hR
    · unfold zRd zOv zTk
      rw [e 1 0 (by omega), e 15 i (by omega), e 8 _ (by omega), e 17 i (by omega), e 18 i (by omega), e 19 i (by omega), e 20 i (by omega)]
      exact h2 i a b
  · rw [e 11 0 (by omega)] at b
    have w := h3 i a b
    rw [e 30 i (by omega), e 31 i (by omega), e 14 0 (by omega), w.1, w.2]
    have s : ∀ c v, zP1 σ i 4 v c = zP1 τ i 4 v c := fun c v => by
      unfold zP1
      by_cases q : c = k
      · rw [q, if_neg (fun z => h19 z.2), if_neg (fun z => n19 z.2)]
      · rw [e 18 c (by omega), e 19 c (by omega)]
    refine ⟨zSum_eq (fun c _ _ => s c 1), zSum_eq (fun c _ _ => ?_)⟩
    rw [s, e 15 c (by omega), e 8 _ (by omega)]
  · unfold zUn
    rw [e 5 0 (by omega), e 11 0 (by omega), e 14 0 (by omega)]
    refine ⟨fun i a => ?_, fun i a => ?_, fun i a => ?_⟩
    · rw [e 10 i (by omega)]; exact h4.1 i a
    · rw [e 30 i (by omega), e 31 i (by omega)]; exact h4.2.1 i a
    · rw [e 17 i (by omega)]; exact h4.2.2 i a
theorem zjn_e (σ : zT) (k w q : Int) (t : Nat) (i : Int) (h : (t ≠ 17 ∧ t ≠ 18) ∨ i ≠ k) : zjn σ k w q t i = σ t i := by
  unfold zjn
  split
  · rcases h with z | z
    · rw [zup_t z.2, zup_t z.1]
    · rw [zup_i z, zup_i z]
  · rcases h with z | z
    · rw [zup_t z.1]
    · rw [zup_i z]
theorem zjn_17 (σ : zT) (k w q : Int) : zjn σ k w q 17 k = zSet (σ 17 k) w := by
  unfold zjn
  split
  · rw [zup_t (by decide), zup_s]
  · rw [zup_s]
theorem zAll_join {σ : zT} (h : zAll σ) {k w q : Int} (ht : zth_join σ k w q = 0) : zAll (zst_join σ k w q) := by
  have hr : ((0 ≤ k ∧ k < σ 14 0) ∧ (0 ≤ w ∧ w ≤ 2) ∧ (w = 2 → 0 ≤ q ∧ q < σ 11 0)) ∧ zBit (σ 17 k) w ≠ 1 := by
    unfold zth_join at ht
    split at ht
    · omega
    · rename_i a
      split at ht
      · omega
      · rename_i b; exact ⟨Classical.not_not.mp a, fun z => b (Or.inl z)⟩
  have hk := hr.1.1
  have fk := h.1.c hk
  have jk := h.2.1.c hk
  have n7 : σ 17 k ≠ 7 := fun z => hr.2 (by rw [z]; exact zBit_7 hr.1.2.1)
  have s0 : σ 19 k = 0 := by omega
  have hb0 : zHB σ k := ⟨fk.2.2.1, fk.2.2.2.1.1, jk.2.2.2.2⟩
  have hI : zInv (zjn σ k w q) := by
    unfold zjn
    split
    · rename_i z
      exact zInv_18 (zInv_17 h.1 (zSet_r fk.2.2.1 hr.1.2.1)) (by show -1 ≤ q ∧ q < σ 11 0; have := hr.1.2.2 z; omega)
    · exact zInv_17 h.1 (zSet_r fk.2.2.1 hr.1.2.1)
  have hHB : zHB (zjn σ k w q) k := by
    unfold zjn
    split
    · rename_i z
      rw [z]; exact zHB_2 hb0 (hr.1.2.2 z).1
    · exact zHB_w hb0 (by omega)
  unfold zst_join
  split
  · rename_i z
    have e14 : zjn σ k w q 14 0 = σ 14 0 := zjn_e σ k w q 14 0 (Or.inl (by decide))
    have h3 : zInv3 (zjn σ k w q) := by
      intro i a b
      rw [zjn_e σ k w q 11 0 (Or.inl (by decide))] at b
      have y := h.2.2.1 i a b
      rw [zjn_e σ k w q 30 i (Or.inl (by decide)), zjn_e σ k w q 31 i (Or.inl (by decide)), e14, y.1, y.2]
      have s : ∀ c v, zP1 σ i 4 v c = zP1 (zjn σ k w q) i 4 v c := fun c v => by
        unfold zP1
        rw [zjn_e σ k w q 19 c (Or.inl (by decide))]
        by_cases x : c = k
        · rw [x, if_neg (by omega), if_neg (by omega)]
        · rw [zjn_e σ k w q 18 c (Or.inr x)]
      refine ⟨zSum_eq (fun c _ _ => s c 1), zSum_eq (fun c _ _ => ?_)⟩
      rw [s, zjn_e σ k w q 15 c (Or.inl (by decide)), zjn_e σ k w q 8 _ (Or.inl (by decide))]
    have h4 : zUn (zjn σ k w q) := by
      unfold zUn
      rw [zjn_e σ k w q 5 0 (Or.inl (by decide)), zjn_e σ k w q 11 0 (Or.inl (by decide)), e14]
      refine ⟨fun i a => ?_, fun i a => ?_, fun i a => ?_⟩
      · rw [zjn_e σ k w q 10 i (Or.inl (by decide))]; exact h.2.2.2.1 i a
      · rw [zjn_e σ k w q 30 i (Or.inl (by decide)), zjn_e σ k w q 31 i (Or.inl (by decide))]; exact h.2.2.2.2.1 i a
      · rw [zjn_e σ k w q 17 i (Or.inr (by omega))]; exact h.2.2.2.2.2 i a
    refine zAll_look hI (by rw [e14]; exact hk) (fun i a b c => ?_) (by rw [zjn_17]; exact z) hHB.2.2 (by rw [zjn_e σ k w q 19 k (Or.inl (by decide))]; omega) h3 h4
    rw [e14] at b
    unfold zRd zOv zTk
    rw [zjn_e σ k w q 1 0 (Or.inl (by decide)), zjn_e σ k w q 15 i (Or.inl (by decide)), zjn_e σ k w q 8 _ (Or.inl (by decide)), zjn_e σ k w q 19 i (Or.inl (by decide)), zjn_e σ k w q 20 i (Or.inl (by decide)), zjn_e σ k w q 17 i (Or.inr c), zjn_e σ k w q 18 i (Or.inr c)]
    exact h.2.1 i a b
  · rename_i z
    have t19 : zjn σ k w q 19 k = σ 19 k := zjn_e σ k w q 19 k (Or.inl (by decide))
    refine zAll_own h hk hI (fun t i c => zjn_e σ k w q t i (by omega)) ?_ (by omega) (by rw [t19]; omega)
    unfold zRd
    rw [t19, zjn_17]
    have b2 := hHB.2.2
    rw [zjn_17] at b2
    exact ⟨by omega, by omega, by omega, by omega, b2⟩
theorem zAll_drops {σ : zT} (h : zAll σ) : ∀ n : Nat, (n : Int) ≤ σ 14 0 → zAll (zDrops σ n).1
  | 0, _ => h
  | n + 1, q => by
    have ih := zAll_drops h n (by omega)
    have t14 : (zDrops σ n).1 14 0 = σ 14 0 := zDrops_o (by decide) (by decide) n
    unfold zDrops
    split
    · rename_i z
      have hk : 0 ≤ (n : Int) ∧ (n : Int) < (zDrops σ n).1 14 0 := by omega
      have j := ih.2.1.c hk
      exact zAll_look ih.1 hk (fun i a b _ => ih.2.1 i a b) (j.2.2.2.1.mp (by omega)) j.2.2.2.2 (by omega) ih.2.2.1 ih.2.2.2
    · exact ih
theorem zAll_drop {σ : zT} (h : zAll σ) {k w : Int} (ht : zth_drop σ k w = 0) : zAll (zst_drop σ k w) := by
  have hr : ((0 ≤ k ∧ k < σ 14 0) ∧ (0 ≤ w ∧ w ≤ 2)) ∧ zBit (σ 17 k) w = 1 ∧ σ 19 k < 3 := by
    unfold zth_drop at ht
    split at ht
    · omega
    · rename_i a
      split at ht
      · omega
      · rename_i b; exact ⟨Classical.not_not.mp a, by omega, by omega⟩
  have hk := hr.1.1
  have fk := h.1.c hk
  have jk := h.2.1.c hk
  have hd : zAll (zdr σ k w) := by
    have e : ∀ t i, (t < 17 ∨ 20 < t ∨ i ≠ k) → zdr σ k w t i = σ t i := fun t i c => by
      unfold zdr
      by_cases q : i = k
      · rw [zup_t (by omega), zup_t (by omega), zup_t (by omega), zup_t (by omega)]
      · rw [zup_i q, zup_i q, zup_i q, zup_i q]
    have t19 : zdr σ k w 19 k = 0 := by unfold zdr; rw [zup_s]
    have t17 : zdr σ k w 17 k = zClr (σ 17 k) w := by unfold zdr; rw [zup_t (by decide), zup_t (by decide), zup_t (by decide), zup_s]
    have t18 : zdr σ k w 18 k = if w = 2 then -1 else σ 18 k := by unfold zdr; rw [zup_t (by decide), zup_t (by decide), zup_s]
    refine zAll_own h hk (zInv_dr h.1 hk hr.1.2) e ?_ (by omega) (by omega)
    unfold zRd
    rw [t19, t17, t18, zClr_b fk.2.2.1 hr.1.2]
    have c7 := zClr_7 fk.2.2.1 hr.1.2 hr.2.1
    refine ⟨by omega, by omega, by omega, by omega, ?_⟩
    split
    · omega
    · exact jk.2.2.2.2
  have t14 : zdr σ k w 14 0 = σ 14 0 := rfl
  have f0 := h.1.r
  unfold zst_drop
  have key : ∀ τ : zT, zAll τ → ∀ v, zAll (zup τ 21 0 v) := fun τ hτ v => hτ.eq (fun a b _ _ _ _ h5 => zup_t h5) ⟨hτ.1.r.2.1, hτ.1.r.2.2.1, hτ.1.r.2.2.2.1⟩
  split
  · exact key _ (zAll_drops hd _ (by rw [t14]; omega)) _
  · exact key _ hd _
theorem zAll_pass {σ : zT} (h : zAll σ) {n : Int} (ht : zth_pass σ n = 0) : zAll (zst_pass σ n) := by
  have hr : 1 ≤ n ∧ n ≤ 2000 ∧ σ 1 0 + n ≤ 20000 := by
    unfold zth_pass at ht
    split at ht
    · omega
    · split at ht <;> omega
  have f0 := h.1.r
  obtain ⟨hI, hJ, h3, h4⟩ := h
  unfold zst_pass
  refine ⟨zInv_adv hI hJ (by omega), zInv2_adv hI hJ (by omega), fun k a b => ?_, ?_⟩
  · have b : k < σ 11 0 := b
    have y := h3 k a b
    have key : ∀ v : Int → Int, zSum (fun c => zP1 σ k 4 (v c) c) (σ 14 0).toNat + zSum (fun c => zNewV σ (σ 1 0 + n) c (σ 18 c = k) (v c)) (σ 14 0).toNat = zSum (fun c => zP1 (zAdv σ (σ 14 0) (σ 1 0 + n)) k 4 (v c) c) (σ 14 0).toNat := fun v => zSum_add (fun c x z => by
      have hc : 0 ≤ c ∧ c < σ 14 0 := ⟨x, by omega⟩
      have st := zStW hI hJ (t := σ 1 0 + n) (by omega) hc
      show (if σ 18 c = k ∧ σ 19 c = 4 then v c else 0) + zNewV σ (σ 1 0 + n) c (σ 18 c = k) (v c) = (if σ 18 c = k ∧ zSt σ (σ 14 0) (σ 1 0 + n) c = 4 then v c else 0)
      by_cases p : σ 18 c = k
      · by_cases q : (σ 19 c = 2 ∨ σ 19 c = 3) ∧ σ 20 c + σ 8 (σ 15 c) ≤ σ 1 0 + n
        · rw [zNewV_t q p, if_neg (by omega), if_pos ⟨p, by omega⟩]; omega
        · rw [zNewV_f q]
          by_cases r : σ 19 c = 4
          · rw [if_pos ⟨p, r⟩, if_pos ⟨p, by omega⟩]; omega
          · rw [if_neg (by omega), if_neg (by omega)]; omega
      · rw [zNewV_p p, if_neg (fun z => p z.1), if_neg (fun z => p z.1)]; omega)
    refine ⟨?_, ?_⟩
    · show σ 30 k + zSum (fun c => zNewV σ (σ 1 0 + n) c (σ 18 c = k) 1) (σ 14 0).toNat = _
      rw [y.1]; exact key (fun _ => 1)
    · show σ 31 k + zSum (fun c => zNewV σ (σ 1 0 + n) c (σ 18 c = k) (σ 8 (σ 15 c))) (σ 14 0).toNat = _
      rw [y.2]; exact key (fun c => σ 8 (σ 15 c))
  · have z0 : ∀ (P : Int → Prop) (v : Int → Int), (∀ c, 0 ≤ c → c < σ 14 0 → ¬ P c) → zSum (fun c => zNewV σ (σ 1 0 + n) c (P c) (v c)) (σ 14 0).toNat = 0 := fun P v hP => zSum_z (fun c x y => zNewV_p (hP c x (by omega)))
    refine ⟨fun i a => ?_, fun i a => ?_, fun i a => h4.2.2 i a⟩
    · have a : σ 5 0 ≤ i := a
      show σ 10 i + zSum (fun c => zNewV σ (σ 1 0 + n) c (σ 15 c = i) (zBill σ c)) (σ 14 0).toNat = 0
      rw [z0 (fun c => σ 15 c = i) (zBill σ) (fun c x y => by have := hI.c (i := c) ⟨x, y⟩; omega), h4.1 i a]; rfl
    · have a : σ 11 0 ≤ i := a
      have hz := h4.2.1 i a
      refine ⟨?_, ?_⟩
      · show σ 30 i + zSum (fun c => zNewV σ (σ 1 0 + n) c (σ 18 c = i) 1) (σ 14 0).toNat = 0
        rw [z0 (fun c => σ 18 c = i) (fun _ => 1) (fun c x y => by have := hI.c (i := c) ⟨x, y⟩; omega), hz.1]; rfl
      · show σ 31 i + zSum (fun c => zNewV σ (σ 1 0 + n) c (σ 18 c = i) (σ 8 (σ 15 c))) (σ 14 0).toNat = 0
        rw [z0 (fun c => σ 18 c = i) (fun c => σ 8 (σ 15 c)) (fun c x y => by have := hI.c (i := c) ⟨x, y⟩; omega), hz.2]; rfl
