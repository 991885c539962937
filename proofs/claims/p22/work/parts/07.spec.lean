/-! SPEC: the state is a table of numbers; its rows are named by the reference's fields:
 1 now, 2 depth, 3 rise, 4 tugs, 5 ships, 6 draught, 7 tons, 8 takes, 9 needs, 10 owes, 11 pilots, 12 licence, 13 rate, 14 conferences, 15 ship, 16 wish, 17 in, 18 pilot, 19 state, 20 slot, 21 moved;
 30 moves of a pilot that are done, 31 their minutes -/
abbrev zT : Type := Nat → Int → Int
def zup (σ : zT) (t : Nat) (i v : Int) : zT := fun t' i' => if t' = t ∧ i' = i then v else σ t' i'
theorem zup_s (σ : zT) (t : Nat) (i v : Int) : zup σ t i v t i = v := if_pos ⟨rfl, rfl⟩
theorem zup_t {σ : zT} {t t' : Nat} {i i' v : Int} (h : t' ≠ t) : zup σ t i v t' i' = σ t' i' := if_neg (fun q => h q.1)
theorem zup_i {σ : zT} {t t' : Nat} {i i' v : Int} (h : i' ≠ i) : zup σ t i v t' i' = σ t' i' := if_neg (fun q => h q.2)
theorem zup_e {σ : zT} {t : Nat} {i v : Int} {t' : Nat} {i' : Int} : zup σ t i v t' i' = if t' = t ∧ i' = i then v else σ t' i' := rfl
/-- what each number may be -/
def zR0 (σ : zT) : Prop := (0 ≤ σ 1 0 ∧ σ 1 0 ≤ 20000) ∧ (10 ≤ σ 2 0 ∧ σ 2 0 ≤ 300) ∧ (0 ≤ σ 3 0 ∧ σ 3 0 ≤ 200) ∧ (0 ≤ σ 4 0 ∧ σ 4 0 ≤ 6) ∧ (0 ≤ σ 5 0 ∧ σ 5 0 ≤ 12) ∧ (0 ≤ σ 11 0 ∧ σ 11 0 ≤ 8) ∧ (0 ≤ σ 14 0 ∧ σ 14 0 ≤ 40)
def zRs (σ : zT) (i : Int) : Prop := (1 ≤ σ 6 i ∧ σ 6 i ≤ 400) ∧ (1 ≤ σ 7 i ∧ σ 7 i ≤ 9999) ∧ (10 ≤ σ 8 i ∧ σ 8 i ≤ 120) ∧ (0 ≤ σ 9 i ∧ σ 9 i ≤ 3)
def zRp (σ : zT) (i : Int) : Prop := (1 ≤ σ 12 i ∧ σ 12 i ≤ 9999) ∧ (1 ≤ σ 13 i ∧ σ 13 i ≤ 50)
def zRc (σ : zT) (i : Int) : Prop := (0 ≤ σ 15 i ∧ σ 15 i < σ 5 0) ∧ (0 ≤ σ 16 i ∧ σ 16 i ≤ 20000) ∧ (0 ≤ σ 17 i ∧ σ 17 i ≤ 7) ∧ (-1 ≤ σ 18 i ∧ σ 18 i < σ 11 0) ∧ (0 ≤ σ 19 i ∧ σ 19 i ≤ 4) ∧ (-1 ≤ σ 20 i ∧ σ 20 i ≤ 21440) ∧ (2 ≤ σ 19 i ↔ 0 ≤ σ 20 i)
def zInv (σ : zT) : Prop := zR0 σ ∧ (∀ i, 0 ≤ i → i < σ 5 0 → zRs σ i) ∧ (∀ i, 0 ≤ i → i < σ 11 0 → zRp σ i) ∧ (∀ i, 0 ≤ i → i < σ 14 0 → zRc σ i)
theorem zInv.s {σ : zT} (h : zInv σ) {i : Int} (h1 : 0 ≤ i ∧ i < σ 5 0) : (1 ≤ σ 6 i ∧ σ 6 i ≤ 400) ∧ (1 ≤ σ 7 i ∧ σ 7 i ≤ 9999) ∧ (10 ≤ σ 8 i ∧ σ 8 i ≤ 120) ∧ (0 ≤ σ 9 i ∧ σ 9 i ≤ 3) := h.2.1 i h1.1 h1.2
theorem zInv.p {σ : zT} (h : zInv σ) {i : Int} (h1 : 0 ≤ i ∧ i < σ 11 0) : (1 ≤ σ 12 i ∧ σ 12 i ≤ 9999) ∧ (1 ≤ σ 13 i ∧ σ 13 i ≤ 50) := h.2.2.1 i h1.1 h1.2
theorem zInv.c {σ : zT} (h : zInv σ) {i : Int} (h1 : 0 ≤ i ∧ i < σ 14 0) : (0 ≤ σ 15 i ∧ σ 15 i < σ 5 0) ∧ (0 ≤ σ 16 i ∧ σ 16 i ≤ 20000) ∧ (0 ≤ σ 17 i ∧ σ 17 i ≤ 7) ∧ (-1 ≤ σ 18 i ∧ σ 18 i < σ 11 0) ∧ (0 ≤ σ 19 i ∧ σ 19 i ≤ 4) ∧ (-1 ≤ σ 20 i ∧ σ 20 i ≤ 21440) ∧ (2 ≤ σ 19 i ↔ 0 ≤ σ 20 i) := h.2.2.2 i h1.1 h1.2
theorem zInv.r {σ : zT} (h : zInv σ) : (0 ≤ σ 1 0 ∧ σ 1 0 ≤ 20000) ∧ (10 ≤ σ 2 0 ∧ σ 2 0 ≤ 300) ∧ (0 ≤ σ 3 0 ∧ σ 3 0 ≤ 200) ∧ (0 ≤ σ 4 0 ∧ σ 4 0 ≤ 6) ∧ (0 ≤ σ 5 0 ∧ σ 5 0 ≤ 12) ∧ (0 ≤ σ 11 0 ∧ σ 11 0 ≤ 8) ∧ (0 ≤ σ 14 0 ∧ σ 14 0 ≤ 40) := h.1
/-- the tide over the depth -/
def zLev (σ : zT) (t : Int) : Int := (if t % 720 < 360 then t % 720 else 720 - t % 720) * σ 3 0 / 360
def zRest (m : Int) : Int := if 60 < m then m else 60
/-- a move's end, by its slot; its ship's minutes; its ship's tugs -/
def zTk (σ : zT) (c : Int) : Int := σ 8 (σ 15 c)
def zNd (σ : zT) (c : Int) : Int := σ 9 (σ 15 c)
def zOv (σ : zT) (c : Int) : Int := σ 20 c + zTk σ c
/-- the four conditions for a move of c to begin at t -/
def zTideOk (σ : zT) (s t : Int) : Prop := ∀ m, t ≤ m → m < t + σ 8 s → σ 6 s + 10 ≤ σ 2 0 + zLev σ m
def zRestOk1 (σ : zT) (c t o : Int) : Prop := o ≠ c → 2 ≤ σ 19 o → σ 18 o = σ 18 c → zOv σ o + zRest (zTk σ o) ≤ t ∨ t + zTk σ c + zRest (zTk σ c) ≤ σ 20 o
def zRestOk (σ : zT) (c t : Int) : Prop := ∀ o, 0 ≤ o → o < σ 14 0 → zRestOk1 σ c t o
def zTug1 (σ : zT) (c m o : Int) : Int := if o ≠ c ∧ 2 ≤ σ 19 o ∧ σ 20 o ≤ m ∧ m < zOv σ o then zNd σ o else 0
/-- a sum over the first n -/
def zSum (f : Int → Int) : Nat → Int
  | 0 => 0
  | n + 1 => zSum f n + f n
def zTugs (σ : zT) (c m : Int) : Int := zSum (zTug1 σ c m) (σ 14 0).toNat
def zTugOk (σ : zT) (c t : Int) : Prop := ∀ m, t ≤ m → m < t + zTk σ c → zTugs σ c m + zNd σ c ≤ σ 4 0
def zChanOk1 (σ : zT) (c t o : Int) : Prop := o ≠ c → 2 ≤ σ 19 o → 15 ≤ t - σ 20 o ∨ 15 ≤ σ 20 o - t
def zChanOk (σ : zT) (c t : Int) : Prop := ∀ o, 0 ≤ o → o < σ 14 0 → zChanOk1 σ c t o
def zOk (σ : zT) (c t : Int) : Prop := zTideOk σ (σ 15 c) t ∧ zChanOk σ c t ∧ zRestOk σ c t ∧ zTugOk σ c t
/-- the first of n minutes from t on that does, or -1 -/
noncomputable def zSrch (P : Int → Prop) : Nat → Int → Int
  | 0, _ => -1
  | n + 1, t => @ite Int (P t) (Classical.propDecidable _) t (zSrch P n (t + 1))
noncomputable def zFind (σ : zT) (c : Int) : Int := zSrch (zOk σ c) 1441 (if σ 1 0 < σ 16 c then σ 16 c else σ 1 0)
/-- a conference looks for a slot -/
noncomputable def zLook (σ : zT) (c : Int) : zT := zup (zup σ 20 c (zFind σ c)) 19 c (if zFind σ c = -1 then 1 else if zFind σ c = σ 1 0 then 3 else 2)
theorem zSum_s (f : Int → Int) (n : Nat) : zSum f (n + 1) = zSum f n + f n := rfl
theorem zSum_le {f g : Int → Int} : ∀ {n : Nat}, (∀ k : Int, 0 ≤ k → k < n → f k ≤ g k) → zSum f n ≤ zSum g n
  | 0, _ => Int.le_refl _
  | n + 1, h => by
    have h1 := zSum_le (n := n) (fun k a b => h k a (by omega))
    have h2 := h n (by omega) (by omega)
    rw [zSum_s, zSum_s]; omega
theorem zSum_eq {f g : Int → Int} : ∀ {n : Nat}, (∀ k : Int, 0 ≤ k → k < n → f k = g k) → zSum f n = zSum g n
  | 0, _ => rfl
  | n + 1, h => by rw [zSum_s, zSum_s, zSum_eq (n := n) (fun k a b => h k a (by omega)), h n (by omega) (by omega)]
theorem zSum_rng {f : Int → Int} {c : Int} : ∀ {n : Nat}, (∀ k : Int, 0 ≤ k → k < n → 0 ≤ f k ∧ f k ≤ c) → 0 ≤ zSum f n ∧ zSum f n ≤ n * c
  | 0, _ => by simp [zSum]
  | n + 1, h => by
    have h1 := zSum_rng (n := n) (fun k a b => h k a (by omega))
    have h2 := h n (by omega) (by omega)
    rw [zSum_s]
    have h3 : ((n + 1 : Nat) : Int) * c = n * c + c := by
      rw [Int.natCast_add, Int.add_mul]; simp
    rw [h3]; omega
/-- a sum one further, at an integer place -/
theorem zSum_i (f : Int → Int) {i : Int} (h : 0 ≤ i) : zSum f (i + 1).toNat = zSum f i.toNat + f i := by
  have h1 : (i + 1).toNat = i.toNat + 1 := by omega
  rw [h1, zSum_s, show ((i.toNat : Nat) : Int) = i by omega]
theorem zSum_0 (f : Int → Int) : zSum f (0 : Int).toNat = 0 := rfl
