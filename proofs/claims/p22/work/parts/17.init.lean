/-! the table at first; a new row of ints -/
/-- the table at first -/
def zInit : zT := fun t _ => if t = 2 then 100 else if t = 3 then 40 else if t = 4 then 2 else 0
theorem z_newaI {p : Program} {l : Launch} {e : Env} {R : Room} {s : State} {m : MethodId} {args : Array Value} {below : List Frame} {meth : Method} {c : Code} {H : Heap} {locs : List Loc} {cells slots : Nat} {Q : State → Prop} {cc : ByteArray} {pc : Nat} {ls : Array Slot} {rest : List Value} {D : va_G} {cI cO cL : ClassId} {A : Nat → Prop} {H0 : Heap}
    (hexec : p.tables.exec = Jvm.exec) (hb : c.code = cc) (hdg : decode cc pc = .ok (.newarray .int, 2)) (harr : (Cond.arrayClass .int).before args s = true) (hK : zKK D cI cO cL s) (hS : va_S A H0 H locs) (hA : ∀ q, H0.size ≤ q → A q) {n : Nat} (hn : (0 ≤ (n : Int) ∧ (n : Int) < 2147483648) ∧ n * 4 ≤ 536870912) (hcells : cells + 1 ≤ R.cells) (hslots : slots + n ≤ R.slots)
    (kk : ∀ (H1 : Heap), va_at D vwCl (H.size, .inl (cI, n, .inl (fun _ => zI 0))) H1 → H1.size = H.size + 1 → (∀ q : Nat, q < H.size → H1[q]? = H[q]?) → va_S A H0 H1 locs →
      W p l e R s m args below meth c H1 locs (cells + 1) (slots + n) Q (F0 m (pc + 2) ls (.ref H.size :: rest))) : W p l e R s m args below meth c H locs cells slots Q (F0 m pc ls (.int (zI (n : Int)) :: rest)) := by
  refine va_newaK (atype := .int) hexec hb harr rfl hdg rfl (zI_nonneg hn.1) (by rw [zI_clamp hn.1]; exact Int.toNat_natCast n) hn.2 hcells hslots rfl fun H1 cA e1 z1 o1 hAr hNm => ?_
  have hcI : s.vm.findClass ("[" ++ FieldType.int.toString) = some cI := (hK.2 0 (cI, .int) rfl).2
  have e : cA = cI := Option.some.inj (hNm.symm.trans hcI)
  subst e
  exact kk H1 e1 z1 o1 ⟨Nat.le_trans hS.1 (by omega), fun x h1 h2 => (o1 x (Nat.lt_of_lt_of_le h1 hS.1)).trans (hS.2.1 x h1 h2), hS.2.2⟩
