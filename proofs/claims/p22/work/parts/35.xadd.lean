/-! one more object in one of the class's lists -/
def gAdd (g : zG) (i n : Int) (T : Nat) (v ea2 cap2 : Nat) : zG := fun t j => if t = T ∧ j = n then v else if t = 3 ∧ j = i then ea2 else if t = 7 ∧ j = i then cap2 else if t = 8 ∧ j = i then g 8 i + 1 else g t j
theorem gAdd_v {g : zG} {i n : Int} {T v ea2 cap2 : Nat} : gAdd g i n T v ea2 cap2 T n = v := if_pos ⟨rfl, rfl⟩
theorem gAdd_o {g : zG} {i n : Int} {T v ea2 cap2 t : Nat} {j : Int} (h1 : ¬ (t = T ∧ j = n)) (h2 : ¬ (t = 3 ∧ j = i)) (h3 : t ≠ 7) (h4 : t ≠ 8) : gAdd g i n T v ea2 cap2 t j = g t j := by
  unfold gAdd
  rw [if_neg h1, if_neg h2, if_neg (fun q => h3 q.1), if_neg (fun q => h4 q.1)]
theorem gAdd_3 {g : zG} {i n : Int} {T v ea2 cap2 : Nat} (h : T ≠ 3) : gAdd g i n T v ea2 cap2 3 i = ea2 := by
  unfold gAdd
  rw [if_neg (fun q => h q.1.symm), if_pos ⟨rfl, rfl⟩]
theorem gAdd_7 {g : zG} {i n : Int} {T v ea2 cap2 : Nat} (h : T ≠ 7) : gAdd g i n T v ea2 cap2 7 i = cap2 := by
  unfold gAdd
  rw [if_neg (fun q => h q.1.symm), if_neg (fun q => absurd q.1 (by decide)), if_pos ⟨rfl, rfl⟩]
theorem gAdd_8 {g : zG} {i n : Int} {T v ea2 cap2 : Nat} (h : T ≠ 8) : gAdd g i n T v ea2 cap2 8 i = g 8 i + 1 := by
  unfold gAdd
  rw [if_neg (fun q => h q.1.symm), if_neg (fun q => absurd q.1 (by decide)), if_neg (fun q => absurd q.1 (by decide)), if_pos ⟨rfl, rfl⟩]
theorem gAdd_78 {g : zG} {i n : Int} {T v ea2 cap2 t : Nat} {j : Int} (h : T ≤ 6) (h3 : t ≠ 3) (hT : t ≠ T) (hj : j ≠ i) : gAdd g i n T v ea2 cap2 t j = g t j := by
  unfold gAdd
  rw [if_neg (fun q => hT q.1), if_neg (fun q => h3 q.1), if_neg (fun q => hj q.2), if_neg (fun q => hj q.2)]
set_option maxHeartbeats 1000000 in
theorem RX_add0 {D : va_G} {cO : ClassId} {A : Nat → Prop} {eE : Nat} {g : zG} {σ σ' : zT} {H H1 : Heap} {v ea2 cap2 : Nat} (hR : RX D cO A eE g σ H) (hr0 : 0 ≤ σ 5 0)
    (hn : σ' 5 0 = σ 5 0 + 1) (hm : σ' 11 0 = σ 11 0 ∧ σ' 14 0 = σ 14 0)
    (hold : ∀ t j, xVal g σ t j → t ≠ 2 → t ≠ 3 → xE (gAdd g 0 (σ 5 0) 4 v ea2 cap2) cO σ' t j = xE g cO σ t j)
    (hlt : v < H.size) (hkey : ∀ t j, xVal g σ t j → g t j ≠ v) (hAv : A v) (hAe : A ea2) (hnew : va_at D vwCl (v, xE (gAdd g 0 (σ 5 0) 4 v ea2 cap2) cO σ' 4 (σ 5 0)) H)
    (h2 : va_at D vwCl (g 2 0, .inr (0, [.int (zI ((g 8 0 + 1 : Nat) : Int)), .ref ea2, .int (zI (σ 5 0 + 1))])) H1) (h3 : va_at D vwCl (ea2, zQ cO cap2 (va_up (xAr g σ 0) (σ 5 0).toNat (some v))) H1) (hcap : σ 5 0 < cap2 ∧ cap2 ≤ 60) (hea : H.size ≤ ea2 ∨ (ea2 = g 3 0 ∧ 0 < g 7 0))
    (hk : ∀ q : Nat, q < H.size → q ≠ g 2 0 → ¬ (0 < g 7 0 ∧ q = g 3 0) → H1[q]? = H[q]?) : RX D cO A eE (gAdd g 0 (σ 5 0) 4 v ea2 cap2) σ' H1 := by
  have cls : ∀ t j, xVal (gAdd g 0 (σ 5 0) 4 v ea2 cap2) σ' t j → (t = 4 ∧ j = σ 5 0) ∨ (t = 3 ∧ j = 0) ∨ (xVal g σ t j ∧ ¬ (t = 3 ∧ j = 0) ∧ ¬ (t = 4 ∧ j = σ 5 0)) := by
    intro t j hv
    match t, hv with
    | 0, hv => exact Or.inr (Or.inr ⟨hv, by omega, by omega⟩)
    | 1, hv => exact Or.inr (Or.inr ⟨hv, by omega, by omega⟩)
    | 2, hv => exact Or.inr (Or.inr ⟨hv, by omega, by omega⟩)
    | 3, hv =>
      by_cases q : j = 0
      · exact Or.inr (Or.inl ⟨rfl, q⟩)
      · have hv2 : (0 ≤ j ∧ j < 3) ∧ 0 < (gAdd g 0 (σ 5 0) 4 v ea2 cap2) 7 j := hv
        rw [gAdd_78 (by decide) (by decide) (by decide) q] at hv2
        exact Or.inr (Or.inr ⟨hv2, fun z => q z.2, by omega⟩)
    | 4, hv =>
      have hv2 : 0 ≤ j ∧ j < σ' 5 0 := hv
      rw [hn] at hv2
      by_cases q : j = σ 5 0
      · exact Or.inl ⟨rfl, q⟩
      · exact Or.inr (Or.inr ⟨show 0 ≤ j ∧ j < σ 5 0 by omega, by omega, fun z => q z.2⟩)
    | 5, hv =>
      have hv2 : 0 ≤ j ∧ j < σ' 11 0 := hv
      rw [hm.1] at hv2
      exact Or.inr (Or.inr ⟨hv2, by omega, by omega⟩)
    | 6, hv =>
      have hv2 : 0 ≤ j ∧ j < σ' 14 0 := hv
      rw [hm.2] at hv2
      exact Or.inr (Or.inr ⟨hv2, by omega, by omega⟩)
  have t6 : ∀ t j, xVal g σ t j → t ≤ 6 := fun t j hv => by
    match t, hv with
    | 0, _ => decide
    | 1, _ => decide
    | 2, _ => decide
    | 3, _ => decide
    | 4, _ => decide
    | 5, _ => decide
    | 6, _ => decide
  have ad : ∀ t j, xVal g σ t j → ¬ (t = 3 ∧ j = 0) → ¬ (t = 4 ∧ j = σ 5 0) → (gAdd g 0 (σ 5 0) 4 v ea2 cap2) t j = g t j := fun t j hv a b => gAdd_o b a (by have := t6 t j hv; omega) (by have := t6 t j hv; omega)
  have lt : ∀ t j, xVal g σ t j → g t j < H.size := fun t j hv => z_lt (hR.1 t j hv)
  have inj := hR.2.1
  have v2 : xVal g σ 2 0 := by show 0 ≤ (0 : Int) ∧ (0 : Int) < 3; decide
  have ne3 : ∀ t j, xVal g σ t j → ¬ (t = 3 ∧ j = 0) → ¬ (0 < g 7 0 ∧ g t j = g 3 0) := fun t j hv a z => a (inj t j 3 0 hv ⟨by decide, z.1⟩ z.2)
  have eane : ∀ t j, xVal g σ t j → ¬ (t = 3 ∧ j = 0) → ea2 ≠ g t j := fun t j hv a z => by
    rcases hea with q | q
    · have := lt t j hv; omega
    · exact ne3 t j hv a ⟨q.2, by rw [← z, q.1]⟩
  have eav : ea2 ≠ v := fun z => by
    rcases hea with q | q
    · omega
    · exact hkey 3 0 ⟨by decide, q.2⟩ (by rw [← q.1]; exact z)
  have hcn : ∀ j, 0 ≤ j → j < 3 → j ≠ 0 → zCn σ' j = zCn σ j := fun j a b c => by
    have : j = 0 ∨ j = 1 ∨ j = 2 := by omega
    rcases this with q | q | q <;> subst q
    · omega
    · show σ' 11 0 = σ 11 0; exact hm.1
    · show σ' 14 0 = σ 14 0; exact hm.2
  have hci : zCn σ' 0 = zCn σ 0 + 1 := hn
  refine ⟨fun t j hv => ?_, fun t j u k h h' e => ?_, fun t j hv => ?_, fun j a b => ?_⟩
  · rcases cls t j hv with ⟨q1, q2⟩ | ⟨q1, q2⟩ | ⟨q1, q2, q3⟩
    · subst q1 q2
      rw [gAdd_v]
      exact hnew.kept (hk v hlt (fun z => hkey 2 0 v2 z.symm) (fun z => hkey 3 0 ⟨by decide, z.1⟩ z.2.symm))
    · subst q1 q2
      rw [gAdd_3 (by decide)]
      show va_at D vwCl (ea2, zQ cO ((gAdd g 0 (σ 5 0) 4 v ea2 cap2) 7 0) (fun x => if (x : Int) < zCn σ' 0 then some ((gAdd g 0 (σ 5 0) 4 v ea2 cap2) 4 x) else none)) H1
      rw [gAdd_7 (by decide)]
      have e : (fun x : Nat => if (x : Int) < zCn σ' 0 then some ((gAdd g 0 (σ 5 0) 4 v ea2 cap2) 4 x) else none) = va_up (xAr g σ 0) (σ 5 0).toNat (some v) := by
        funext x
        rw [hci]
        show (if (x : Int) < σ 5 0 + 1 then some ((gAdd g 0 (σ 5 0) 4 v ea2 cap2) 4 x) else none) = _
        by_cases q : x = (σ 5 0).toNat
        · have qx : (x : Int) = σ 5 0 := by omega
          rw [if_pos (by omega), qx, gAdd_v, q, z_up_eq]
        · rw [z_up_ne q]
          show _ = if (x : Int) < σ 5 0 then some (g 4 x) else none
          by_cases c : (x : Int) < σ 5 0
          · rw [if_pos (by omega), if_pos c, gAdd_o (fun z => by omega) (by omega) (by decide) (by decide)]
          · rw [if_neg (by omega), if_neg c]
      rw [e]
      exact h3
    · rw [ad t j q1 q2 q3]
      by_cases c2 : t = 2
      · subst c2
        by_cases c : j = 0
        · subst c
          show va_at D vwCl (g 2 0, .inr (0, [.int (zI ((gAdd g 0 (σ 5 0) 4 v ea2 cap2) 8 0)), .ref ((gAdd g 0 (σ 5 0) 4 v ea2 cap2) 3 0), .int (zI (zCn σ' 0))])) H1
          rw [gAdd_8 (by decide), gAdd_3 (by decide), hci]
          exact h2
        · have hj : 0 ≤ j ∧ j < 3 := q1
          show va_at D vwCl (g 2 j, .inr (0, [.int (zI ((gAdd g 0 (σ 5 0) 4 v ea2 cap2) 8 j)), .ref ((gAdd g 0 (σ 5 0) 4 v ea2 cap2) 3 j), .int (zI (zCn σ' j))])) H1
          rw [gAdd_78 (by decide) (by decide) (by decide) c, gAdd_o (by omega) (by omega) (by decide) (by decide), hcn j hj.1 hj.2 c]
          exact (hR.1 2 j q1).kept (hk _ (lt 2 j q1) (fun z => c (inj 2 j 2 0 q1 v2 z).2) (ne3 2 j q1 (by omega)))
      by_cases c3 : t = 3
      · subst c3
        have hj : (0 ≤ j ∧ j < 3) ∧ 0 < g 7 j := q1
        have c : j ≠ 0 := fun z => q2 ⟨rfl, z⟩
        have e : xE (gAdd g 0 (σ 5 0) 4 v ea2 cap2) cO σ' 3 j = xE g cO σ 3 j := by
          show zQ cO ((gAdd g 0 (σ 5 0) 4 v ea2 cap2) 7 j) (fun x => if (x : Int) < zCn σ' j then some ((gAdd g 0 (σ 5 0) 4 v ea2 cap2) (4 + j.toNat) x) else none) = zQ cO (g 7 j) (fun x => if (x : Int) < zCn σ j then some (g (4 + j.toNat) x) else none)
          have e4 : ∀ x : Int, (gAdd g 0 (σ 5 0) 4 v ea2 cap2) (4 + j.toNat) x = g (4 + j.toNat) x := fun x => gAdd_o (fun z => by omega) (fun z => by omega) (by omega) (by omega)
          rw [gAdd_78 (by decide) (by decide) (by decide) c, hcn j hj.1.1 hj.1.2 c]
          simp only [e4]
        rw [e]
        exact (hR.1 3 j q1).kept (hk _ (lt 3 j q1) (fun z => absurd (inj 3 j 2 0 q1 v2 z).1 (by decide)) (ne3 3 j q1 q2))
      · rw [hold t j q1 c2 c3]
        exact (hR.1 t j q1).kept (hk _ (lt t j q1) (fun z => c2 (inj t j 2 0 q1 v2 z).1) (ne3 t j q1 q2))
  · rcases cls t j h with ⟨q1, q2⟩ | ⟨q1, q2⟩ | ⟨q1, q2, q3⟩
    · rcases cls u k h' with ⟨r1, r2⟩ | ⟨r1, r2⟩ | ⟨r1, r2, r3⟩
      · exact ⟨by omega, by omega⟩
      · subst q1 q2 r1 r2
        rw [gAdd_v, gAdd_3 (by decide)] at e
        exact absurd e.symm eav
      · subst q1 q2
        rw [gAdd_v, ad u k r1 r2 r3] at e
        exact absurd e.symm (hkey u k r1)
    · rcases cls u k h' with ⟨r1, r2⟩ | ⟨r1, r2⟩ | ⟨r1, r2, r3⟩
      · subst q1 q2 r1 r2
        rw [gAdd_v, gAdd_3 (by decide)] at e
        exact absurd e eav
      · exact ⟨by omega, by omega⟩
      · subst q1 q2
        rw [gAdd_3 (by decide), ad u k r1 r2 r3] at e
        exact absurd e (eane u k r1 r2)
    · rcases cls u k h' with ⟨r1, r2⟩ | ⟨r1, r2⟩ | ⟨r1, r2, r3⟩
      · subst r1 r2
        rw [gAdd_v, ad t j q1 q2 q3] at e
        exact absurd e (hkey t j q1)
      · subst r1 r2
        rw [gAdd_3 (by decide), ad t j q1 q2 q3] at e
        exact absurd e.symm (eane t j q1 q2)
      · rw [ad t j q1 q2 q3, ad u k r1 r2 r3] at e
        exact inj t j u k q1 r1 e
  · rcases cls t j hv with ⟨q1, q2⟩ | ⟨q1, q2⟩ | ⟨q1, q2, q3⟩
    · subst q1 q2; rw [gAdd_v]; exact hAv
    · subst q1 q2; rw [gAdd_3 (by decide)]; exact hAe
    · rw [ad t j q1 q2 q3]; exact hR.2.2.1 t j q1
  · by_cases c : j = 0
    · subst c
      rw [gAdd_7 (by decide), hci]
      refine ⟨?_, hcap.2, fun z => ?_⟩
      · show σ 5 0 + 1 ≤ (cap2 : Int); omega
      · omega
    · rw [gAdd_78 (by decide) (by decide) (by decide) c, gAdd_o (by omega) (by omega) (by decide) (by decide), hcn j a b c]
      exact hR.2.2.2 j a b
set_option maxHeartbeats 1000000 in
theorem RX_add1 {D : va_G} {cO : ClassId} {A : Nat → Prop} {eE : Nat} {g : zG} {σ σ' : zT} {H H1 : Heap} {v ea2 cap2 : Nat} (hR : RX D cO A eE g σ H) (hr0 : 0 ≤ σ 11 0)
    (hn : σ' 11 0 = σ 11 0 + 1) (hm : σ' 5 0 = σ 5 0 ∧ σ' 14 0 = σ 14 0)
    (hold : ∀ t j, xVal g σ t j → t ≠ 2 → t ≠ 3 → xE (gAdd g 1 (σ 11 0) 5 v ea2 cap2) cO σ' t j = xE g cO σ t j)
    (hlt : v < H.size) (hkey : ∀ t j, xVal g σ t j → g t j ≠ v) (hAv : A v) (hAe : A ea2) (hnew : va_at D vwCl (v, xE (gAdd g 1 (σ 11 0) 5 v ea2 cap2) cO σ' 5 (σ 11 0)) H)
    (h2 : va_at D vwCl (g 2 1, .inr (0, [.int (zI ((g 8 1 + 1 : Nat) : Int)), .ref ea2, .int (zI (σ 11 0 + 1))])) H1) (h3 : va_at D vwCl (ea2, zQ cO cap2 (va_up (xAr g σ 1) (σ 11 0).toNat (some v))) H1) (hcap : σ 11 0 < cap2 ∧ cap2 ≤ 60) (hea : H.size ≤ ea2 ∨ (ea2 = g 3 1 ∧ 0 < g 7 1))
    (hk : ∀ q : Nat, q < H.size → q ≠ g 2 1 → ¬ (0 < g 7 1 ∧ q = g 3 1) → H1[q]? = H[q]?) : RX D cO A eE (gAdd g 1 (σ 11 0) 5 v ea2 cap2) σ' H1 := by
  have cls : ∀ t j, xVal (gAdd g 1 (σ 11 0) 5 v ea2 cap2) σ' t j → (t = 5 ∧ j = σ 11 0) ∨ (t = 3 ∧ j = 1) ∨ (xVal g σ t j ∧ ¬ (t = 3 ∧ j = 1) ∧ ¬ (t = 5 ∧ j = σ 11 0)) := by
    intro t j hv
    match t, hv with
    | 0, hv => exact Or.inr (Or.inr ⟨hv, by omega, by omega⟩)
    | 1, hv => exact Or.inr (Or.inr ⟨hv, by omega, by omega⟩)
    | 2, hv => exact Or.inr (Or.inr ⟨hv, by omega, by omega⟩)
    | 3, hv =>
      by_cases q : j = 1
      · exact Or.inr (Or.inl ⟨rfl, q⟩)
      · have hv2 : (0 ≤ j ∧ j < 3) ∧ 0 < (gAdd g 1 (σ 11 0) 5 v ea2 cap2) 7 j := hv
        rw [gAdd_78 (by decide) (by decide) (by decide) q] at hv2
        exact Or.inr (Or.inr ⟨hv2, fun z => q z.2, by omega⟩)
    | 4, hv =>
      have hv2 : 0 ≤ j ∧ j < σ' 5 0 := hv
      rw [hm.1] at hv2
      exact Or.inr (Or.inr ⟨hv2, by omega, by omega⟩)
    | 5, hv =>
      have hv2 : 0 ≤ j ∧ j < σ' 11 0 := hv
      rw [hn] at hv2
      by_cases q : j = σ 11 0
      · exact Or.inl ⟨rfl, q⟩
      · exact Or.inr (Or.inr ⟨show 0 ≤ j ∧ j < σ 11 0 by omega, by omega, fun z => q z.2⟩)
    | 6, hv =>
      have hv2 : 0 ≤ j ∧ j < σ' 14 0 := hv
      rw [hm.2] at hv2
      exact Or.inr (Or.inr ⟨hv2, by omega, by omega⟩)
  have t6 : ∀ t j, xVal g σ t j → t ≤ 6 := fun t j hv => by
    match t, hv with
    | 0, _ => decide
    | 1, _ => decide
    | 2, _ => decide
    | 3, _ => decide
    | 4, _ => decide
    | 5, _ => decide
    | 6, _ => decide
  have ad : ∀ t j, xVal g σ t j → ¬ (t = 3 ∧ j = 1) → ¬ (t = 5 ∧ j = σ 11 0) → (gAdd g 1 (σ 11 0) 5 v ea2 cap2) t j = g t j := fun t j hv a b => gAdd_o b a (by have := t6 t j hv; omega) (by have := t6 t j hv; omega)
  have lt : ∀ t j, xVal g σ t j → g t j < H.size := fun t j hv => z_lt (hR.1 t j hv)
  have inj := hR.2.1
  have v2 : xVal g σ 2 1 := by show 0 ≤ (1 : Int) ∧ (1 : Int) < 3; decide
  have ne3 : ∀ t j, xVal g σ t j → ¬ (t = 3 ∧ j = 1) → ¬ (0 < g 7 1 ∧ g t j = g 3 1) := fun t j hv a z => a (inj t j 3 1 hv ⟨by decide, z.1⟩ z.2)
  have eane : ∀ t j, xVal g σ t j → ¬ (t = 3 ∧ j = 1) → ea2 ≠ g t j := fun t j hv a z => by
    rcases hea with q | q
    · have := lt t j hv; omega
    · exact ne3 t j hv a ⟨q.2, by rw [← z, q.1]⟩
  have eav : ea2 ≠ v := fun z => by
    rcases hea with q | q
    · omega
    · exact hkey 3 1 ⟨by decide, q.2⟩ (by rw [← q.1]; exact z)
  have hcn : ∀ j, 0 ≤ j → j < 3 → j ≠ 1 → zCn σ' j = zCn σ j := fun j a b c => by
    have : j = 0 ∨ j = 1 ∨ j = 2 := by omega
    rcases this with q | q | q <;> subst q
    · show σ' 5 0 = σ 5 0; exact hm.1
    · omega
    · show σ' 14 0 = σ 14 0; exact hm.2
  have hci : zCn σ' 1 = zCn σ 1 + 1 := hn
  refine ⟨fun t j hv => ?_, fun t j u k h h' e => ?_, fun t j hv => ?_, fun j a b => ?_⟩
  · rcases cls t j hv with ⟨q1, q2⟩ | ⟨q1, q2⟩ | ⟨q1, q2, q3⟩
    · subst q1 q2
      rw [gAdd_v]
      exact hnew.kept (hk v hlt (fun z => hkey 2 1 v2 z.symm) (fun z => hkey 3 1 ⟨by decide, z.1⟩ z.2.symm))
    · subst q1 q2
      rw [gAdd_3 (by decide)]
      show va_at D vwCl (ea2, zQ cO ((gAdd g 1 (σ 11 0) 5 v ea2 cap2) 7 1) (fun x => if (x : Int) < zCn σ' 1 then some ((gAdd g 1 (σ 11 0) 5 v ea2 cap2) 5 x) else none)) H1
      rw [gAdd_7 (by decide)]
      have e : (fun x : Nat => if (x : Int) < zCn σ' 1 then some ((gAdd g 1 (σ 11 0) 5 v ea2 cap2) 5 x) else none) = va_up (xAr g σ 1) (σ 11 0).toNat (some v) := by
        funext x
        rw [hci]
        show (if (x : Int) < σ 11 0 + 1 then some ((gAdd g 1 (σ 11 0) 5 v ea2 cap2) 5 x) else none) = _
        by_cases q : x = (σ 11 0).toNat
        · have qx : (x : Int) = σ 11 0 := by omega
          rw [if_pos (by omega), qx, gAdd_v, q, z_up_eq]
        · rw [z_up_ne q]
          show _ = if (x : Int) < σ 11 0 then some (g 5 x) else none
          by_cases c : (x : Int) < σ 11 0
          · rw [if_pos (by omega), if_pos c, gAdd_o (fun z => by omega) (by omega) (by decide) (by decide)]
          · rw [if_neg (by omega), if_neg c]
      rw [e]
      exact h3
    · rw [ad t j q1 q2 q3]
      by_cases c2 : t = 2
      · subst c2
        by_cases c : j = 1
        · subst c
          show va_at D vwCl (g 2 1, .inr (0, [.int (zI ((gAdd g 1 (σ 11 0) 5 v ea2 cap2) 8 1)), .ref ((gAdd g 1 (σ 11 0) 5 v ea2 cap2) 3 1), .int (zI (zCn σ' 1))])) H1
          rw [gAdd_8 (by decide), gAdd_3 (by decide), hci]
          exact h2
        · have hj : 0 ≤ j ∧ j < 3 := q1
          show va_at D vwCl (g 2 j, .inr (0, [.int (zI ((gAdd g 1 (σ 11 0) 5 v ea2 cap2) 8 j)), .ref ((gAdd g 1 (σ 11 0) 5 v ea2 cap2) 3 j), .int (zI (zCn σ' j))])) H1
          rw [gAdd_78 (by decide) (by decide) (by decide) c, gAdd_o (by omega) (by omega) (by decide) (by decide), hcn j hj.1 hj.2 c]
          exact (hR.1 2 j q1).kept (hk _ (lt 2 j q1) (fun z => c (inj 2 j 2 1 q1 v2 z).2) (ne3 2 j q1 (by omega)))
      by_cases c3 : t = 3
      · subst c3
        have hj : (0 ≤ j ∧ j < 3) ∧ 0 < g 7 j := q1
        have c : j ≠ 1 := fun z => q2 ⟨rfl, z⟩
        have e : xE (gAdd g 1 (σ 11 0) 5 v ea2 cap2) cO σ' 3 j = xE g cO σ 3 j := by
          show zQ cO ((gAdd g 1 (σ 11 0) 5 v ea2 cap2) 7 j) (fun x => if (x : Int) < zCn σ' j then some ((gAdd g 1 (σ 11 0) 5 v ea2 cap2) (4 + j.toNat) x) else none) = zQ cO (g 7 j) (fun x => if (x : Int) < zCn σ j then some (g (4 + j.toNat) x) else none)
          have e4 : ∀ x : Int, (gAdd g 1 (σ 11 0) 5 v ea2 cap2) (4 + j.toNat) x = g (4 + j.toNat) x := fun x => gAdd_o (fun z => by omega) (fun z => by omega) (by omega) (by omega)
          rw [gAdd_78 (by decide) (by decide) (by decide) c, hcn j hj.1.1 hj.1.2 c]
          simp only [e4]
        rw [e]
        exact (hR.1 3 j q1).kept (hk _ (lt 3 j q1) (fun z => absurd (inj 3 j 2 1 q1 v2 z).1 (by decide)) (ne3 3 j q1 q2))
      · rw [hold t j q1 c2 c3]
        exact (hR.1 t j q1).kept (hk _ (lt t j q1) (fun z => c2 (inj t j 2 1 q1 v2 z).1) (ne3 t j q1 q2))
  · rcases cls t j h with ⟨q1, q2⟩ | ⟨q1, q2⟩ | ⟨q1, q2, q3⟩
    · rcases cls u k h' with ⟨r1, r2⟩ | ⟨r1, r2⟩ | ⟨r1, r2, r3⟩
      · exact ⟨by omega, by omega⟩
      · subst q1 q2 r1 r2
        rw [gAdd_v, gAdd_3 (by decide)] at e
        exact absurd e.symm eav
      · subst q1 q2
        rw [gAdd_v, ad u k r1 r2 r3] at e
        exact absurd e.symm (hkey u k r1)
    · rcases cls u k h' with ⟨r1, r2⟩ | ⟨r1, r2⟩ | ⟨r1, r2, r3⟩
      · subst q1 q2 r1 r2
        rw [gAdd_v, gAdd_3 (by decide)] at e
        exact absurd e eav
      · exact ⟨by omega, by omega⟩
      · subst q1 q2
        rw [gAdd_3 (by decide), ad u k r1 r2 r3] at e
        exact absurd e (eane u k r1 r2)
    · rcases cls u k h' with ⟨r1, r2⟩ | ⟨r1, r2⟩ | ⟨r1, r2, r3⟩
      · subst r1 r2
        rw [gAdd_v, ad t j q1 q2 q3] at e
        exact absurd e (hkey t j q1)
      · subst r1 r2
        rw [gAdd_3 (by decide), ad t j q1 q2 q3] at e
        exact absurd e.symm (eane t j q1 q2)
      · rw [ad t j q1 q2 q3, ad u k r1 r2 r3] at e
        exact inj t j u k q1 r1 e
  · rcases cls t j hv with ⟨q1, q2⟩ | ⟨q1, q2⟩ | ⟨q1, q2, q3⟩
    · subst q1 q2; rw [gAdd_v]; exact hAv
    · subst q1 q2; rw [gAdd_3 (by decide)]; exact hAe
    · rw [ad t j q1 q2 q3]; exact hR.2.2.1 t j q1
  · by_cases c : j = 1
    · subst c
      rw [gAdd_7 (by decide), hci]
      refine ⟨?_, hcap.2, fun z => ?_⟩
      · show σ 11 0 + 1 ≤ (cap2 : Int); omega
      · omega
    · rw [gAdd_78 (by decide) (by decide) (by decide) c, gAdd_o (by omega) (by omega) (by decide) (by decide), hcn j a b c]
      exact hR.2.2.2 j a b
set_option maxHeartbeats 1000000 in
theorem RX_add2 {D : va_G} {cO : ClassId} {A : Nat → Prop} {eE : Nat} {g : zG} {σ σ' : zT} {H H1 : Heap} {v ea2 cap2 : Nat} (hR : RX D cO A eE g σ H) (hr0 : 0 ≤ σ 14 0)
    (hn : σ' 14 0 = σ 14 0 + 1) (hm : σ' 5 0 = σ 5 0 ∧ σ' 11 0 = σ 11 0)
    (hold : ∀ t j, xVal g σ t j → t ≠ 2 → t ≠ 3 → xE (gAdd g 2 (σ 14 0) 6 v ea2 cap2) cO σ' t j = xE g cO σ t j)
    (hlt : v < H.size) (hkey : ∀ t j, xVal g σ t j → g t j ≠ v) (hAv : A v) (hAe : A ea2) (hnew : va_at D vwCl (v, xE (gAdd g 2 (σ 14 0) 6 v ea2 cap2) cO σ' 6 (σ 14 0)) H)
    (h2 : va_at D vwCl (g 2 2, .inr (0, [.int (zI ((g 8 2 + 1 : Nat) : Int)), .ref ea2, .int (zI (σ 14 0 + 1))])) H1) (h3 : va_at D vwCl (ea2, zQ cO cap2 (va_up (xAr g σ 2) (σ 14 0).toNat (some v))) H1) (hcap : σ 14 0 < cap2 ∧ cap2 ≤ 60) (hea : H.size ≤ ea2 ∨ (ea2 = g 3 2 ∧ 0 < g 7 2))
    (hk : ∀ q : Nat, q < H.size → q ≠ g 2 2 → ¬ (0 < g 7 2 ∧ q = g 3 2) → H1[q]? = H[q]?) : RX D cO A eE (gAdd g 2 (σ 14 0) 6 v ea2 cap2) σ' H1 := by
  have cls : ∀ t j, xVal (gAdd g 2 (σ 14 0) 6 v ea2 cap2) σ' t j → (t = 6 ∧ j = σ 14 0) ∨ (t = 3 ∧ j = 2) ∨ (xVal g σ t j ∧ ¬ (t = 3 ∧ j = 2) ∧ ¬ (t = 6 ∧ j = σ 14 0)) := by
    intro t j hv
    match t, hv with
    | 0, hv => exact Or.inr (Or.inr ⟨hv, by omega, by omega⟩)
    | 1, hv => exact Or.inr (Or.inr ⟨hv, by omega, by omega⟩)
    | 2, hv => exact Or.inr (Or.inr ⟨hv, by omega, by omega⟩)
    | 3, hv =>
      by_cases q : j = 2
      · exact Or.inr (Or.inl ⟨rfl, q⟩)
      · have hv2 : (0 ≤ j ∧ j < 3) ∧ 0 < (gAdd g 2 (σ 14 0) 6 v ea2 cap2) 7 j := hv
        rw [gAdd_78 (by decide) (by decide) (by decide) q] at hv2
        exact Or.inr (Or.inr ⟨hv2, fun z => q z.2, by omega⟩)
    | 4, hv =>
      have hv2 : 0 ≤ j ∧ j < σ' 5 0 := hv
      rw [hm.1] at hv2
      exact Or.inr (Or.inr ⟨hv2, by omega, by omega⟩)
    | 5, hv =>
      have hv2 : 0 ≤ j ∧ j < σ' 11 0 := hv
      rw [hm.2] at hv2
      exact Or.inr (Or.inr ⟨hv2, by omega, by omega⟩)
    | 6, hv =>
      have hv2 : 0 ≤ j ∧ j < σ' 14 0 := hv
      rw [hn] at hv2
      by_cases q : j = σ 14 0
      · exact Or.inl ⟨rfl, q⟩
      · exact Or.inr (Or.inr ⟨show 0 ≤ j ∧ j < σ 14 0 by omega, by omega, fun z => q z.2⟩)
  have t6 : ∀ t j, xVal g σ t j → t ≤ 6 := fun t j hv => by
    match t, hv with
    | 0, _ => decide
    | 1, _ => decide
    | 2, _ => decide
    | 3, _ => decide
    | 4, _ => decide
    | 5, _ => decide
    | 6, _ => decide
  have ad : ∀ t j, xVal g σ t j → ¬ (t = 3 ∧ j = 2) → ¬ (t = 6 ∧ j = σ 14 0) → (gAdd g 2 (σ 14 0) 6 v ea2 cap2) t j = g t j := fun t j hv a b => gAdd_o b a (by have := t6 t j hv; omega) (by have := t6 t j hv; omega)
  have lt : ∀ t j, xVal g σ t j → g t j < H.size := fun t j hv => z_lt (hR.1 t j hv)
  have inj := hR.2.1
  have v2 : xVal g σ 2 2 := by show 0 ≤ (2 : Int) ∧ (2 : Int) < 3; decide
  have ne3 : ∀ t j, xVal g σ t j → ¬ (t = 3 ∧ j = 2) → ¬ (0 < g 7 2 ∧ g t j = g 3 2) := fun t j hv a z => a (inj t j 3 2 hv ⟨by decide, z.1⟩ z.2)
  have eane : ∀ t j, xVal g σ t j → ¬ (t = 3 ∧ j = 2) → ea2 ≠ g t j := fun t j hv a z => by
    rcases hea with q | q
    · have := lt t j hv; omega
    · exact ne3 t j hv a ⟨q.2, by rw [← z, q.1]⟩
  have eav : ea2 ≠ v := fun z => by
    rcases hea with q | q
    · omega
    · exact hkey 3 2 ⟨by decide, q.2⟩ (by rw [← q.1]; exact z)
  have hcn : ∀ j, 0 ≤ j → j < 3 → j ≠ 2 → zCn σ' j = zCn σ j := fun j a b c => by
    have : j = 0 ∨ j = 1 ∨ j = 2 := by omega
    rcases this with q | q | q <;> subst q
    · show σ' 5 0 = σ 5 0; exact hm.1
    · show σ' 11 0 = σ 11 0; exact hm.2
    · omega
  have hci : zCn σ' 2 = zCn σ 2 + 1 := hn
  refine ⟨fun t j hv => ?_, fun t j u k h h' e => ?_, fun t j hv => ?_, fun j a b => ?_⟩
  · rcases cls t j hv with ⟨q1, q2⟩ | ⟨q1, q2⟩ | ⟨q1, q2, q3⟩
    · subst q1 q2
      rw [gAdd_v]
      exact hnew.kept (hk v hlt (fun z => hkey 2 2 v2 z.symm) (fun z => hkey 3 2 ⟨by decide, z.1⟩ z.2.symm))
    · subst q1 q2
      rw [gAdd_3 (by decide)]
      show va_at D vwCl (ea2, zQ cO ((gAdd g 2 (σ 14 0) 6 v ea2 cap2) 7 2) (fun x => if (x : Int) < zCn σ' 2 then some ((gAdd g 2 (σ 14 0) 6 v ea2 cap2) 6 x) else none)) H1
      rw [gAdd_7 (by decide)]
      have e : (fun x : Nat => if (x : Int) < zCn σ' 2 then some ((gAdd g 2 (σ 14 0) 6 v ea2 cap2) 6 x) else none) = va_up (xAr g σ 2) (σ 14 0).toNat (some v) := by
        funext x
        rw [hci]
        show (if (x : Int) < σ 14 0 + 1 then some ((gAdd g 2 (σ 14 0) 6 v ea2 cap2) 6 x) else none) = _
        by_cases q : x = (σ 14 0).toNat
        · have qx : (x : Int) = σ 14 0 := by omega
          rw [if_pos (by omega), qx, gAdd_v, q, z_up_eq]
        · rw [z_up_ne q]
          show _ = if (x : Int) < σ 14 0 then some (g 6 x) else none
          by_cases c : (x : Int) < σ 14 0
          · rw [if_pos (by omega), if_pos c, gAdd_o (fun z => by omega) (by omega) (by decide) (by decide)]
          · rw [if_neg (by omega), if_neg c]
      rw [e]
      exact h3
    · rw [ad t j q1 q2 q3]
      by_cases c2 : t = 2
      · subst c2
        by_cases c : j = 2
        · subst c
          show va_at D vwCl (g 2 2, .inr (0, [.int (zI ((gAdd g 2 (σ 14 0) 6 v ea2 cap2) 8 2)), .ref ((gAdd g 2 (σ 14 0) 6 v ea2 cap2) 3 2), .int (zI (zCn σ' 2))])) H1
          rw [gAdd_8 (by decide), gAdd_3 (by decide), hci]
          exact h2
        · have hj : 0 ≤ j ∧ j < 3 := q1
          show va_at D vwCl (g 2 j, .inr (0, [.int (zI ((gAdd g 2 (σ 14 0) 6 v ea2 cap2) 8 j)), .ref ((gAdd g 2 (σ 14 0) 6 v ea2 cap2) 3 j), .int (zI (zCn σ' j))])) H1
          rw [gAdd_78 (by decide) (by decide) (by decide) c, gAdd_o (by omega) (by omega) (by decide) (by decide), hcn j hj.1 hj.2 c]
          exact (hR.1 2 j q1).kept (hk _ (lt 2 j q1) (fun z => c (inj 2 j 2 2 q1 v2 z).2) (ne3 2 j q1 (by omega)))
      by_cases c3 : t = 3
      · subst c3
        have hj : (0 ≤ j ∧ j < 3) ∧ 0 < g 7 j := q1
        have c : j ≠ 2 := fun z => q2 ⟨rfl, z⟩
        have e : xE (gAdd g 2 (σ 14 0) 6 v ea2 cap2) cO σ' 3 j = xE g cO σ 3 j := by
          show zQ cO ((gAdd g 2 (σ 14 0) 6 v ea2 cap2) 7 j) (fun x => if (x : Int) < zCn σ' j then some ((gAdd g 2 (σ 14 0) 6 v ea2 cap2) (4 + j.toNat) x) else none) = zQ cO (g 7 j) (fun x => if (x : Int) < zCn σ j then some (g (4 + j.toNat) x) else none)
          have e4 : ∀ x : Int, (gAdd g 2 (σ 14 0) 6 v ea2 cap2) (4 + j.toNat) x = g (4 + j.toNat) x := fun x => gAdd_o (fun z => by omega) (fun z => by omega) (by omega) (by omega)
          rw [gAdd_78 (by decide) (by decide) (by decide) c, hcn j hj.1.1 hj.1.2 c]
          simp only [e4]
        rw [e]
        exact (hR.1 3 j q1).kept (hk _ (lt 3 j q1) (fun z => absurd (inj 3 j 2 2 q1 v2 z).1 (by decide)) (ne3 3 j q1 q2))
      · rw [hold t j q1 c2 c3]
        exact (hR.1 t j q1).kept (hk _ (lt t j q1) (fun z => c2 (inj t j 2 2 q1 v2 z).1) (ne3 t j q1 q2))
  · rcases cls t j h with ⟨q1, q2⟩ | ⟨q1, q2⟩ | ⟨q1, q2, q3⟩
    · rcases cls u k h' with ⟨r1, r2⟩ | ⟨r1, r2⟩ | ⟨r1, r2, r3⟩
      · exact ⟨by omega, by omega⟩
      · subst q1 q2 r1 r2
        rw [gAdd_v, gAdd_3 (by decide)] at e
        exact absurd e.symm eav
      · subst q1 q2
        rw [gAdd_v, ad u k r1 r2 r3] at e
        exact absurd e.symm (hkey u k r1)
    · rcases cls u k h' with ⟨r1, r2⟩ | ⟨r1, r2⟩ | ⟨r1, r2, r3⟩
      · subst q1 q2 r1 r2
        rw [gAdd_v, gAdd_3 (by decide)] at e
        exact absurd e eav
      · exact ⟨by omega, by omega⟩
      · subst q1 q2
        rw [gAdd_3 (by decide), ad u k r1 r2 r3] at e
        exact absurd e (eane u k r1 r2)
    · rcases cls u k h' with ⟨r1, r2⟩ | ⟨r1, r2⟩ | ⟨r1, r2, r3⟩
      · subst r1 r2
        rw [gAdd_v, ad t j q1 q2 q3] at e
        exact absurd e (hkey t j q1)
      · subst r1 r2
        rw [gAdd_3 (by decide), ad t j q1 q2 q3] at e
        exact absurd e.symm (eane t j q1 q2)
      · rw [ad t j q1 q2 q3, ad u k r1 r2 r3] at e
        exact inj t j u k q1 r1 e
  · rcases cls t j hv with ⟨q1, q2⟩ | ⟨q1, q2⟩ | ⟨q1, q2, q3⟩
    · subst q1 q2; rw [gAdd_v]; exact hAv
    · subst q1 q2; rw [gAdd_3 (by decide)]; exact hAe
    · rw [ad t j q1 q2 q3]; exact hR.2.2.1 t j q1
  · by_cases c : j = 2
    · subst c
      rw [gAdd_7 (by decide), hci]
      refine ⟨?_, hcap.2, fun z => ?_⟩
      · show σ 14 0 + 1 ≤ (cap2 : Int); omega
      · omega
    · rw [gAdd_78 (by decide) (by decide) (by decide) c, gAdd_o (by omega) (by omega) (by decide) (by decide), hcn j a b c]
      exact hR.2.2.2 j a b
