/-! plain facts and rows for the class's readers -/
theorem zRest_max (m : Int) : max 60 m = zRest m := by unfold zRest; split <;> omega
theorem zTent_min2 (t : Int) : min (t % 720) (720 - t % 720) = zTent t := by unfold zTent; split <;> omega
theorem zLev_m {σ : zT} (h : 0 ≤ σ 3 0 ∧ σ 3 0 ≤ 200) (t : Int) : 0 ≤ zTent t * σ 3 0 ∧ zTent t * σ 3 0 ≤ 72000 := ⟨Int.mul_nonneg (zTent_r t).1 h.1, Int.mul_le_mul (zTent_r t).2 h.2 h.1 (by decide)⟩
/-- a step of the search: t does and stays, or none from t on does before z -/
def zStep (P : Int → Prop) (t z : Int) : Prop := ((z = t ∧ P t) ∨ (t < z ∧ ∀ u, t ≤ u → u < z → ¬ P u)) ∧ z ≤ t + 30000
def zPart (P : Int → Int → Prop) (i t n : Int) : Prop := ((n = t ∧ ∀ o, 0 ≤ o → o < i → P t o) ∨ (t < n ∧ ∀ u, t ≤ u → u < n → ∃ o, (0 ≤ o ∧ o < i) ∧ ¬ P u o)) ∧ n ≤ t + 30000
theorem zPart_0 {P : Int → Int → Prop} {t : Int} : zPart P 0 t t := ⟨Or.inl ⟨rfl, fun o a b => absurd b (by omega)⟩, by omega⟩
theorem zPart_ok {P : Int → Int → Prop} {i t n : Int} (h : zPart P i t n) (hp : P t i) : zPart P (i + 1) t n := by
  refine ⟨?_, h.2⟩
  rcases h.1 with ⟨h1, h2⟩ | ⟨h1, h2⟩
  · refine Or.inl ⟨h1, fun o a b => ?_⟩
    by_cases q : o = i
    · rw [q]; exact hp
    · exact h2 o a (by omega)
  · refine Or.inr ⟨h1, fun u a b => ?_⟩
    obtain ⟨o, q, r⟩ := h2 u a b
    exact ⟨o, by omega, r⟩
theorem zPart_no {P : Int → Int → Prop} {i t n e : Int} (h : zPart P i t n) (hi : 0 ≤ i) (he : t < e ∧ e ≤ t + 30000) (hp : ∀ u, t ≤ u → u < e → ¬ P u i) : zPart P (i + 1) t (max n e) := by
  have h2 := h.2
  refine ⟨Or.inr ⟨by omega, fun u a b => ?_⟩, by omega⟩
  by_cases q : u < e
  · exact ⟨i, by omega, hp u a q⟩
  · rcases h.1 with ⟨h1, h2⟩ | ⟨h1, h2⟩
    · omega
    · obtain ⟨o, q, r⟩ := h2 u a (by omega)
      exact ⟨o, by omega, r⟩
theorem zPart_st {P : Int → Int → Prop} {i t n : Int} (h : zPart P i t n) : zStep (fun u => ∀ o, 0 ≤ o → o < i → P u o) t n := by
  refine ⟨?_, h.2⟩
  rcases h.1 with ⟨h1, h2⟩ | ⟨h1, h2⟩
  · exact Or.inl ⟨h1, h2⟩
  · refine Or.inr ⟨h1, fun u a b q => ?_⟩
    obtain ⟨o, r, w⟩ := h2 u a b
    exact w (q o r.1 r.2)
/-- the tugs of all but one that go on in some of these minutes -/
def zTg (σ : zT) (c a b o : Int) : Int := if o ≠ c ∧ 2 ≤ σ 19 o ∧ σ 20 o ≤ b ∧ a < zOv σ o then zNd σ o else 0
def zTgs (σ : zT) (c a b : Int) : Int := zSum (zTg σ c a b) (σ 14 0).toNat
theorem zTg_t {σ : zT} {k a b i : Int} (h : i ≠ k ∧ 2 ≤ σ 19 i ∧ σ 20 i ≤ b ∧ a < σ 20 i + σ 8 (σ 15 i)) : zTg σ k a b i = σ 9 (σ 15 i) := if_pos h
theorem zTg_f {σ : zT} {k a b i : Int} (h : ¬ (i ≠ k ∧ 2 ≤ σ 19 i ∧ σ 20 i ≤ b ∧ a < σ 20 i + σ 8 (σ 15 i))) : zTg σ k a b i = 0 := if_neg h
theorem zTgs_r {σ : zT} (hI : zInv σ) (k a b : Int) : 0 ≤ zTgs σ k a b ∧ zTgs σ k a b ≤ 120 := by
  have f0 := hI.r
  have h1 := zSum_rng (f := zTg σ k a b) (c := 3) (n := (σ 14 0).toNat) (fun i a1 a2 => by
    have fi := hI.c (i := i) (by omega)
    have gi := hI.s (i := σ 15 i) (by omega)
    unfold zTg zNd
    split <;> omega)
  unfold zTgs
  omega
theorem zTgs_m {σ : zT} (hI : zInv σ) (k : Int) {a b m : Int} (h : a ≤ m ∧ m ≤ b) : zTugs σ k m ≤ zTgs σ k a b := by
  have f0 := hI.r
  refine zSum_le (fun i a1 a2 => ?_)
  have fi := hI.c (i := i) (by omega)
  have gi := hI.s (i := σ 15 i) (by omega)
  unfold zTug1 zTg zNd zOv zTk
  split <;> split <;> omega
theorem zTgs_1 (σ : zT) (k m : Int) : zTgs σ k m m = zTugs σ k m := rfl
theorem zSum_pos {f : Int → Int} : ∀ {n : Nat} {i : Int}, (∀ k : Int, 0 ≤ k → k < n → 0 ≤ f k) → 0 ≤ i → i < n → 0 < f i → 0 < zSum f n
  | 0, i, _, a, b, _ => by omega
  | n + 1, i, h, a, b, q => by
    rw [zSum_s]
    have h1 := h n (by omega) (by omega)
    by_cases e : i = n
    · have h2 : 0 ≤ zSum f n := by
        have : ∀ m : Nat, m ≤ n → 0 ≤ zSum f m := fun m => by
          induction m with
          | zero => intro _; exact Int.le_refl _
          | succ m ih => intro hm; rw [zSum_s]; have := ih (by omega); have := h m (by omega) (by omega); omega
        exact this n (Nat.le_refl _)
      rw [e] at q; omega
    · have := zSum_pos (n := n) (fun k c d => h k c (by omega)) a (by omega) q
      omega
theorem zRsd_t {σ : zT} {k i : Int} (h : 0 ≤ i) (q : 2 ≤ σ 19 i ∧ σ 18 i = k) : zRsd σ k (i + 1).toNat = max (zRsd σ k i.toNat) (σ 20 i + (σ 8 (σ 15 i) + zRest (σ 8 (σ 15 i)))) := by
  rw [zRsd_i σ k h]
  have e : zOv σ i + zRest (zTk σ i) = σ 20 i + (σ 8 (σ 15 i) + zRest (σ 8 (σ 15 i))) := by unfold zOv zTk; omega
  by_cases c : zRsd σ k i.toNat < zOv σ i + zRest (zTk σ i)
  · rw [if_pos ⟨q.1, q.2, c⟩, e]; omega
  · rw [if_neg (fun z => c z.2.2)]; omega
theorem zRsd_f {σ : zT} {k i : Int} (h : 0 ≤ i) (q : ¬ (2 ≤ σ 19 i ∧ σ 18 i = k)) : zRsd σ k (i + 1).toNat = zRsd σ k i.toNat := by
  rw [zRsd_i σ k h, if_neg (fun z => q ⟨z.1, z.2.1⟩)]
theorem z01_narrow {a : Int} (h : 0 ≤ a ∧ a ≤ 1) : narrow .boolean (.int (zI a)) = .int (zI a) := by
  have : a = 0 ∨ a = 1 := by omega
  rcases this with q | q <;> (rw [q]; rfl)
theorem zMany_b {x : Int} (w : Int) (h : w = zBit x 2) : x % 2 + x / 2 % 2 + w = zMany x := by rw [h]; rfl
section XQ
variable {p : Program} {l : Launch} {e : Env} {R : Room} {s : State} {m : MethodId} {args : Array Value} {below : List Frame} {meth : Method} {c : Code} {H : Heap} {locs : List Loc} {cells slots : Nat} {Q : State → Prop}
variable {pc : Nat} {ls : Array Slot} {rest : List Value}
/-- the same value -/
theorem z_tov {v w : Value} (h : v = w) (k : W p l e R s m args below meth c H locs cells slots Q (F0 m pc ls (w :: rest))) : W p l e R s m args below meth c H locs cells slots Q (F0 m pc ls (v :: rest)) := by rw [h]; exact k
end XQ
section XG
variable {D : va_G} {cO : ClassId} {A : Nat → Prop} {eE : Nat} {g : zG} {σ : zT} {H0 : Heap}
theorem xAr_at {i k : Int} (hk : 0 ≤ k ∧ k < zCn σ i) : xAr g σ i k.toNat = some (g (4 + i.toNat) k) := by
  unfold xAr
  have e : ((k.toNat : Nat) : Int) = k := by omega
  rw [if_pos (by omega), e]
theorem c_size (l : Launch) (cI cL : ClassId) (hR : RX D cO A eE g σ H0) {i : Int} (hi : 0 ≤ i ∧ i < 3) : zPM l yJx4a65c_size_8abf5 wsJx4a65c_size_8abf5 ({ frames := 0, cells := 0, slots := 0, locals := 0 }) (zKK D cI cO cL) [.ref (g 2 i)] H0 (fun r => r = .int (zI (zCn σ i))) :=
  c_Jx4a65c_size_8abf5 l D cI cO cL H0 (g 2 i) (g 8 i) (g 3 i) (zCn σ i) (hR.l hi)
theorem c_get (l : Launch) (cI cL : ClassId) (hR : RX D cO A eE g σ H0) {i k : Int} (hi : 0 ≤ i ∧ i < 3) (hk : 0 ≤ k ∧ k < zCn σ i) : zPM l yJx4a65c_get_915e3 wsJx4a65c_get_915e3 ({ frames := 2, cells := 0, slots := 0, locals := 43 }) (zKK D cI cO cL) [.ref (g 2 i), .int (zI k)] H0 (fun r => r = .ref (g (4 + i.toNat) k)) := by
  have hc := hR.2.2.2 i hi.1 hi.2
  exact c_Jx4a65c_get_915e3 l D cI cO cL H0 (g 2 i) (g 8 i) (g 3 i) (g 7 i) (g (4 + i.toNat) k) (zCn σ i) k (xAr g σ i) (hR.l hi) (hR.a hi (by omega)) ⟨hk, by omega, by omega⟩ (xAr_at hk)
end XG
