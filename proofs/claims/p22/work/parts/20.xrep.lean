/-! the CLASS's cells: an object, a tide, three lists with their arrays, ships, pilots, conferences; keys (t, i): 0 the object, 1 tide, 2 lists, 3 their arrays, 4 ships, 5 pilots, 6 conferences; 7 capacities, 8 counts of changes -/
abbrev zG : Type := Nat → Int → Nat
def zCn (σ : zT) (i : Int) : Int := if i = 0 then σ 5 0 else if i = 1 then σ 11 0 else σ 14 0
def xVal (g : zG) (σ : zT) (t : Nat) (i : Int) : Prop := match t with
  | 0 => i = 0
  | 1 => i = 0
  | 2 => 0 ≤ i ∧ i < 3
  | 3 => (0 ≤ i ∧ i < 3) ∧ 0 < g 7 i
  | 4 => 0 ≤ i ∧ i < σ 5 0
  | 5 => 0 ≤ i ∧ i < σ 11 0
  | 6 => 0 ≤ i ∧ i < σ 14 0
  | _ => False
def xPl (g : zG) (σ : zT) (i : Int) : Option Nat := if σ 18 i = -1 then none else some (g 5 (σ 18 i))
def xAr (g : zG) (σ : zT) (i : Int) : Nat → Option Nat := fun j => if (j : Int) < zCn σ i then some (g (4 + i.toNat) j) else none
def xE (g : zG) (cO : ClassId) (σ : zT) (t : Nat) (i : Int) : va_E := match t with
  | 0 => .inr (5, [.ref (g 1 0), .ref (g 2 0), .ref (g 2 1), .ref (g 2 2), .int (zI (σ 4 0)), .int (zI (σ 1 0)), .int (zI (σ 21 0))])
  | 1 => .inr (4, [.int (zI (σ 2 0)), .int (zI (σ 3 0))])
  | 2 => .inr (0, [.int (zI (g 8 i)), .ref (g 3 i), .int (zI (zCn σ i))])
  | 3 => .inl (cO, g 7 i, .inr (.inr (.inr (.inr (xAr g σ i)))))
  | 4 => .inr (3, [.int (zI i), .int (zI (σ 6 i)), .int (zI (σ 7 i)), .int (zI (σ 8 i)), .int (zI (σ 9 i)), .int (zI (σ 10 i))])
  | 5 => .inr (2, [.int (zI i), .int (zI (σ 12 i)), .int (zI (σ 13 i)), .int (zI (σ 30 i)), .int (zI (σ 31 i))])
  | _ => .inr (1, [.ref (g 4 (σ 15 i)), .int (zI (σ 16 i)), .int (zI (σ 17 i % 2)), .int (zI (σ 17 i / 2 % 2)), va_rf (xPl g σ i), .int (zI (σ 19 i)), .int (zI (σ 20 i))])
def xOwn (g : zG) (σ : zT) (A : Nat → Prop) (eE : Nat) : Prop := (∀ t i u j, xVal g σ t i → xVal g σ u j → g t i = g u j → t = u ∧ i = j) ∧ (∀ t i, xVal g σ t i → A (g t i)) ∧ ∀ i, 0 ≤ i → i < 3 → zCn σ i ≤ g 7 i ∧ g 7 i ≤ 60 ∧ (g 7 i = 0 → g 3 i = eE)
def RX (D : va_G) (cO : ClassId) (A : Nat → Prop) (eE : Nat) (g : zG) (σ : zT) (H : Heap) : Prop := (∀ t i, xVal g σ t i → va_at D vwCl (g t i, xE g cO σ t i) H) ∧ xOwn g σ A eE
section XR
variable {D : va_G} {cO : ClassId} {A : Nat → Prop} {eE : Nat} {g : zG} {σ σ' : zT} {H H1 : Heap}
theorem RX.x (h : RX D cO A eE g σ H) : va_at D vwCl (g 0 0, .inr (5, [.ref (g 1 0), .ref (g 2 0), .ref (g 2 1), .ref (g 2 2), .int (zI (σ 4 0)), .int (zI (σ 1 0)), .int (zI (σ 21 0))])) H := h.1 0 0 rfl
theorem RX.t (h : RX D cO A eE g σ H) : va_at D vwCl (g 1 0, .inr (4, [.int (zI (σ 2 0)), .int (zI (σ 3 0))])) H := h.1 1 0 rfl
theorem RX.l (h : RX D cO A eE g σ H) {i : Int} (hi : 0 ≤ i ∧ i < 3) : va_at D vwCl (g 2 i, .inr (0, [.int (zI (g 8 i)), .ref (g 3 i), .int (zI (zCn σ i))])) H := h.1 2 i hi
theorem RX.a (h : RX D cO A eE g σ H) {i : Int} (hi : 0 ≤ i ∧ i < 3) (hc : 0 < g 7 i) : va_at D vwCl (g 3 i, .inl (cO, g 7 i, .inr (.inr (.inr (.inr (xAr g σ i)))))) H := h.1 3 i ⟨hi, hc⟩
theorem RX.s (h : RX D cO A eE g σ H) {i : Int} (hi : 0 ≤ i ∧ i < σ 5 0) : va_at D vwCl (g 4 i, .inr (3, [.int (zI i), .int (zI (σ 6 i)), .int (zI (σ 7 i)), .int (zI (σ 8 i)), .int (zI (σ 9 i)), .int (zI (σ 10 i))])) H := h.1 4 i hi
theorem RX.p (h : RX D cO A eE g σ H) {i : Int} (hi : 0 ≤ i ∧ i < σ 11 0) : va_at D vwCl (g 5 i, .inr (2, [.int (zI i), .int (zI (σ 12 i)), .int (zI (σ 13 i)), .int (zI (σ 30 i)), .int (zI (σ 31 i))])) H := h.1 5 i hi
theorem RX.c (h : RX D cO A eE g σ H) {i : Int} (hi : 0 ≤ i ∧ i < σ 14 0) : va_at D vwCl (g 6 i, .inr (1, [.ref (g 4 (σ 15 i)), .int (zI (σ 16 i)), .int (zI (σ 17 i % 2)), .int (zI (σ 17 i / 2 % 2)), va_rf (xPl g σ i), .int (zI (σ 19 i)), .int (zI (σ 20 i))])) H := h.1 6 i hi
theorem RX.ow (h : RX D cO A eE g σ H) {t : Nat} {i : Int} (hi : xVal g σ t i) : A (g t i) := h.2.2.1 t i hi
theorem RX.c_eq (h : RX D cO A eE g σ H) {i k : Int} (hi : 0 ≤ i ∧ i < σ 14 0) (hk : 0 ≤ k ∧ k < σ 14 0) : some (g 6 i) = some (g 6 k) ↔ i = k :=
  ⟨fun q => (h.2.1 6 i 6 k hi hk (Option.some.inj q)).2, fun q => by rw [q]⟩
theorem RX.p_eq (h : RX D cO A eE g σ H) {i k : Int} (hi : -1 ≤ i ∧ i < σ 11 0) (hk : 0 ≤ k ∧ k < σ 11 0) : (if i = -1 then none else some (g 5 i)) = some (g 5 k) ↔ i = k := by
  by_cases e : i = -1
  · rw [if_pos e]
    exact ⟨fun q => absurd q (by simp), fun q => by omega⟩
  · rw [if_neg e]
    exact ⟨fun q => (h.2.1 5 i 5 k (show 0 ≤ i ∧ i < σ 11 0 by omega) hk (Option.some.inj q)).2, fun q => by rw [q]⟩
theorem RX.pp (h : RX D cO A eE g σ H) {i k : Int} (hi : -1 ≤ σ 18 i ∧ σ 18 i < σ 11 0) (hk : -1 ≤ σ 18 k ∧ σ 18 k < σ 11 0) : xPl g σ i = xPl g σ k ↔ σ 18 i = σ 18 k := by
  unfold xPl
  by_cases e : σ 18 k = -1
  · rw [if_pos e]
    by_cases f : σ 18 i = -1
    · rw [if_pos f]; exact ⟨fun _ => by omega, fun _ => rfl⟩
    · rw [if_neg f]; exact ⟨fun q => absurd q (by simp), fun q => by omega⟩
  · rw [if_neg e]
    exact h.p_eq hi (by omega)
theorem RX.pk (h : RX D cO A eE g σ H) {i k : Int} (hi : -1 ≤ σ 18 i ∧ σ 18 i < σ 11 0) (hk : 0 ≤ k ∧ k < σ 11 0) : xPl g σ i = some (g 5 k) ↔ σ 18 i = k := h.p_eq hi hk
theorem xPl_n {i : Int} (h : σ 18 i = -1) : xPl g σ i = none := if_pos h
theorem xPl_s {i : Int} (h : σ 18 i ≠ -1) : xPl g σ i = some (g 5 (σ 18 i)) := if_neg h
theorem RX.kept (h : RX D cO A eE g σ H) (hq : ∀ q : Nat, q < H.size → A q → H1[q]? = H[q]?) : RX D cO A eE g σ H1 :=
  ⟨fun t i hv => (h.1 t i hv).kept (hq _ (z_lt (h.1 t i hv)) (h.ow hv)), h.2⟩
/-- whose number it is -/
def zOw (k : Nat) : Nat := match k with
  | 1 => 0 | 4 => 0 | 21 => 0 | 2 => 1 | 3 => 1
  | 6 => 4 | 7 => 4 | 8 => 4 | 9 => 4 | 10 => 4
  | 12 => 5 | 13 => 5 | 30 => 5 | 31 => 5
  | 15 => 6 | 16 => 6 | 17 => 6 | 18 => 6 | 19 => 6 | 20 => 6
  | 5 => 8 | 11 => 8 | 14 => 8
  | _ => 9
/-- another table, but for the numbers of one key (and the throw's) -/
def zOth (t : Nat) (i : Int) (σ σ' : zT) : Prop := ∀ k j, zOw k ≠ 9 → ¬ (zOw k = t ∧ j = i) → σ' k j = σ k j
theorem zOth.rf {t : Nat} {i : Int} : zOth t i σ σ := fun _ _ _ _ => rfl
theorem zOth.up {t n : Nat} {i v : Int} (h : zOth t i σ σ') (hn : zOw n = t) : zOth t i σ (zup σ' n i v) := fun k j h1 h2 => by
  show (if k = n ∧ j = i then v else σ' k j) = σ k j
  rw [if_neg (fun q => h2 ⟨by rw [q.1]; exact hn, q.2⟩)]
  exact h k j h1 h2
theorem zOth.cn {t : Nat} {i : Int} (h : zOth t i σ σ') (ht : t ≤ 6) (j : Int) : zCn σ' j = zCn σ j := by
  unfold zCn
  have e : ∀ k, zOw k = 8 → σ' k 0 = σ k 0 := fun k hk => h k 0 (by omega) (fun q => by omega)
  rw [e 5 rfl, e 11 rfl, e 14 rfl]
theorem zOth.val {t : Nat} {i : Int} (h : zOth t i σ σ') (ht : t ≤ 6) (u : Nat) (j : Int) : xVal g σ' u j ↔ xVal g σ u j := by
  have e : ∀ k, zOw k = 8 → σ' k 0 = σ k 0 := fun k hk => h k 0 (by omega) (fun q => by omega)
  unfold xVal
  split <;> simp only [e 5 rfl, e 11 rfl, e 14 rfl]
theorem zOth.e {t : Nat} {i : Int} (h : zOth t i σ σ') (ht : t ≤ 6) {u : Nat} {j : Int} (hv : xVal g σ u j) (hne : ¬ (u = t ∧ j = i)) : xE g cO σ' u j = xE g cO σ u j := by
  have hn := h.cn ht
  have e : ∀ k, zOw k = u → zOw k ≠ 9 → σ' k j = σ k j := fun k h1 h2 => h k j h2 (fun q => hne ⟨by rw [← h1]; exact q.1, q.2⟩)
  match u, hv with
  | 0, hv =>
    have hj : j = 0 := hv
    subst hj
    show (Sum.inr (5, [.ref (g 1 0), .ref (g 2 0), .ref (g 2 1), .ref (g 2 2), .int (zI (σ' 4 0)), .int (zI (σ' 1 0)), .int (zI (σ' 21 0))]) : va_E) = _
    rw [e 4 rfl (by decide), e 1 rfl (by decide), e 21 rfl (by decide)]; rfl
  | 1, hv =>
    have hj : j = 0 := hv
    subst hj
    show (Sum.inr (4, [.int (zI (σ' 2 0)), .int (zI (σ' 3 0))]) : va_E) = _
    rw [e 2 rfl (by decide), e 3 rfl (by decide)]; rfl
  | 2, hv =>
    show (Sum.inr (0, [.int (zI (g 8 j)), .ref (g 3 j), .int (zI (zCn σ' j))]) : va_E) = _
    rw [hn]; rfl
  | 3, hv =>
    show (Sum.inl (cO, g 7 j, .inr (.inr (.inr (.inr (fun x => if (x : Int) < zCn σ' j then some (g (4 + j.toNat) x) else none))))) : va_E) = _
    rw [hn]; rfl
  | 4, hv =>
    show (Sum.inr (3, [.int (zI j), .int (zI (σ' 6 j)), .int (zI (σ' 7 j)), .int (zI (σ' 8 j)), .int (zI (σ' 9 j)), .int (zI (σ' 10 j))]) : va_E) = _
    rw [e 6 rfl (by decide), e 7 rfl (by decide), e 8 rfl (by decide), e 9 rfl (by decide), e 10 rfl (by decide)]; rfl
  | 5, hv =>
    show (Sum.inr (2, [.int (zI j), .int (zI (σ' 12 j)), .int (zI (σ' 13 j)), .int (zI (σ' 30 j)), .int (zI (σ' 31 j))]) : va_E) = _
    rw [e 12 rfl (by decide), e 13 rfl (by decide), e 30 rfl (by decide), e 31 rfl (by decide)]; rfl
  | 6, hv =>
    show (Sum.inr (1, [.ref (g 4 (σ' 15 j)), .int (zI (σ' 16 j)), .int (zI (σ' 17 j % 2)), .int (zI (σ' 17 j / 2 % 2)), va_rf (if σ' 18 j = -1 then none else some (g 5 (σ' 18 j))), .int (zI (σ' 19 j)), .int (zI (σ' 20 j))]) : va_E) = _
    rw [e 15 rfl (by decide), e 16 rfl (by decide), e 17 rfl (by decide), e 18 rfl (by decide), e 19 rfl (by decide), e 20 rfl (by decide)]; rfl
theorem RX.put (h : RX D cO A eE g σ H) {t : Nat} {i : Int} (ht : t ≤ 6) (hv : xVal g σ t i) (hO : zOth t i σ σ') (ha : va_at D vwCl (g t i, xE g cO σ' t i) H1) (hq : ∀ q : Nat, q ≠ g t i → H1[q]? = H[q]?) : RX D cO A eE g σ' H1 := by
  refine ⟨fun u j hu => ?_, ⟨fun a b c d h1 h2 => h.2.1 a b c d ((hO.val ht _ _).mp h1) ((hO.val ht _ _).mp h2), fun a b h1 => h.2.2.1 a b ((hO.val ht _ _).mp h1), fun a b c => ?_⟩⟩
  · have hu := (hO.val ht u j).mp hu
    by_cases e : u = t ∧ j = i
    · rw [e.1, e.2]; exact ha
    · rw [hO.e ht hu e]
      exact (h.1 u j hu).kept (hq _ (fun q => e (h.2.1 u j t i hu hv q)))
  · rw [hO.cn ht]; exact h.2.2.2 a b c
/-- it doesn't speak of the throw's number -/
theorem RX.eq0 (h : RX D cO A eE g σ H) (e : ∀ k j, zOw k ≠ 9 → σ' k j = σ k j) : RX D cO A eE g σ' H := by
  have hO : zOth 0 1 σ σ' := fun k j h1 _ => e k j h1
  refine ⟨fun u j hu => ?_, ⟨fun a b c d h1 h2 => h.2.1 a b c d ((hO.val (by decide) _ _).mp h1) ((hO.val (by decide) _ _).mp h2), fun a b h1 => h.2.2.1 a b ((hO.val (by decide) _ _).mp h1), fun a b c => ?_⟩⟩
  · have hu := (hO.val (by decide) u j).mp hu
    rw [hO.e (by decide) hu (fun q => ?_)]
    · exact h.1 u j hu
    · rw [q.1] at hu
      have h0 : j = 0 := hu
      omega
  · rw [hO.cn (by decide)]; exact h.2.2.2 a b c
end XR
section XP
variable {p : Program} {l : Launch} {e : Env} {R : Room} {s : State} {m : MethodId} {args : Array Value} {below : List Frame} {meth : Method} {c : Code} {H H0 : Heap} {locs : List Loc} {cells slots : Nat} {Q : State → Prop}
variable {cc : ByteArray} {pc : Nat} {ls : Array Slot} {rest : List Value} {D : va_G} {cI cO cL : ClassId} {A : Nat → Prop} {eE : Nat} {g : zG} {σ : zT} {Ts : List Cond}
/-- a put into one of the cells -/
theorem x_put (hexec : p.tables.exec = Jvm.exec) (hb : c.code = cc) {own ref C : String} {T : u_T} {N ci index : Nat} (hts : ∀ w ∈ Ts, w.before args s = true) (hin : ∀ w ∈ u_ws C T N, w ∈ Ts) (ty0 : Nat → FieldType) (hty : ∀ k, k < N → parseFieldDescriptor (T k).2.2.1 = some (ty0 k)) (hnm : ∀ a, a < N → ∀ b, b < N → a ≠ b → (T a).2.1 ≠ (T b).2.1) (hown : s.vm.findClass own = some m.cls) (hK : zKK D cI cO cL s) (hR : RX D cO A eE g σ H) (hS : va_S A H0 H locs) (t : Nat) (i : Int) (ht : t ≤ 6) (hv : xVal g σ t i) {fs : List Value} (he : xE g cO σ t i = .inr (ci, fs)) (hc : vwCl[ci]? = some (C, T, N)) (k : Nat) (hk : k < N) (hlink : (Cond.fieldLink own index ref (T k).2.1 (T k).2.2.1) ∈ Ts) (hsame : (T k).1 = ref) (hfin : (T k).2.2.2 = false) {v : Value} (hn : narrow (ty0 k) v = v) (hfit : fits (ty0 k) v = true) (hl : k < fs.length)
    (σ' : zT) (hO : zOth t i σ σ') (he' : xE g cO σ' t i = .inr (ci, fs.set k v)) (hdg : decode cc pc = .ok (.putfield index, 3))
    (kk : ∀ (H1 : Heap) (locs1 : List Loc), RX D cO A eE g σ' H1 → H1.size = H.size → va_S A H0 H1 locs1 → W p l e R s m args below meth c H1 locs1 cells slots Q (F0 m (pc + 3) ls rest)) : W p l e R s m args below meth c H locs cells slots Q (F0 m pc ls (v :: .ref (g t i) :: rest)) := by
  have ho := hR.1 t i hv
  rw [he] at ho
  refine z_put hexec hb hts hin ty0 hty hnm hown hK ho (hR.ow hv) hS hc k hk hlink hsame hfin hn hfit hl hdg (fun H1 locs1 ha hz hq hS1 => kk H1 locs1 (hR.put ht hv hO (by rw [he']; exact ha) hq) hz hS1)
end XP
