/-! THE FACE: of each call, which throw (0 none), the answer, the new table -/
theorem zup_2 (σ : zT) (t : Nat) (i a b : Int) : zup (zup σ t i a) t i b = zup σ t i b := by
  funext t' i'
  unfold zup
  split
  · rfl
  · rfl
theorem zInv_th {σ : zT} (h : zInv σ) (v : Int) : zInv (zup σ 0 0 v) := h
/-- who is in: bits of a small number -/
def zBit (x w : Int) : Int := if w = 0 then x % 2 else if w = 1 then x / 2 % 2 else x / 4 % 2
def zSh (x w : Int) : Int := if w = 0 then x else if w = 1 then x / 2 else x / 4
def zPw (w : Int) : Int := if w = 0 then 1 else if w = 1 then 2 else 4
def zSet (x w : Int) : Int := if zBit x w = 1 then x else x + zPw w
def zClr (x w : Int) : Int := if zBit x w = 1 then x - zPw w else x
theorem zBit_sh (x w : Int) : zSh x w % 2 = zBit x w := by
  unfold zSh zBit
  split
  · rfl
  · split <;> rfl
theorem zBit_r (x w : Int) : 0 ≤ zBit x w ∧ zBit x w ≤ 1 := by
  unfold zBit
  split
  · omega
  · split <;> omega
theorem zSet_r {x w : Int} (h : 0 ≤ x ∧ x ≤ 7) (hw : 0 ≤ w ∧ w ≤ 2) : 0 ≤ zSet x w ∧ zSet x w ≤ 7 := by
  unfold zSet zBit zPw
  repeat' split
  all_goals omega
theorem zClr_r {x w : Int} (h : 0 ≤ x ∧ x ≤ 7) (hw : 0 ≤ w ∧ w ≤ 2) : 0 ≤ zClr x w ∧ zClr x w ≤ 7 := by
  unfold zClr zBit zPw
  repeat' split
  all_goals omega
theorem zSmall {P : Int → Int → Prop} (h : ∀ a : Fin 8, ∀ w : Fin 3, P (a.val : Int) (w.val : Int)) {x w : Int} (hx : 0 ≤ x ∧ x ≤ 7) (hw : 0 ≤ w ∧ w ≤ 2) : P x w := by
  have h1 := h ⟨x.toNat, by omega⟩ ⟨w.toNat, by omega⟩
  have e1 : ((x.toNat : Nat) : Int) = x := by omega
  have e2 : ((w.toNat : Nat) : Int) = w := by omega
  simp only [e1, e2] at h1
  exact h1
section ZB
variable {p : Program} {l : Launch} {e : Env} {R : Room} {s : State} {m : MethodId} {args : Array Value} {below : List Frame} {meth : Method} {c : Code} {H : Heap} {locs : List Loc} {cells slots : Nat} {Q : State → Prop}
variable {cc : ByteArray} {pc : Nat} {ls : Array Slot} {rest : List Value}
theorem z_ishr (hexec : p.tables.exec = Jvm.exec) (hb : c.code = cc) {a w : Int} (hdg : decode cc pc = .ok (.ishr, 1)) (h : (0 ≤ a ∧ a < 2147483648) ∧ 0 ≤ w ∧ w ≤ 2) (k : W p l e R s m args below meth c H locs cells slots Q (F0 m (pc + 1) ls (.int (zI (zSh a w)) :: rest))) : W p l e R s m args below meth c H locs cells slots Q (F0 m pc ls (.int (zI w) :: .int (zI a) :: rest)) := by
  refine lv_ishr hexec hb hdg ?_
  have e : zI a >>> (zI w &&& 31) = zI (zSh a w) := by
    unfold zSh
    split
    · rw [zI_shr (n := 0) h.1 ⟨by omega, by omega⟩]; simp
    · split
      · rw [zI_shr (n := 1) h.1 ⟨by omega, by omega⟩]; rfl
      · rw [zI_shr (n := 2) h.1 ⟨by omega, by omega⟩]; rfl
  rw [e]
  exact k
theorem z_iand1 (hexec : p.tables.exec = Jvm.exec) (hb : c.code = cc) {a : Int} (hdg : decode cc pc = .ok (.iand, 1)) (h : 0 ≤ a ∧ a < 2147483648) (k : W p l e R s m args below meth c H locs cells slots Q (F0 m (pc + 1) ls (.int (zI (a % 2)) :: rest))) : W p l e R s m args below meth c H locs cells slots Q (F0 m pc ls (.int (zI 1) :: .int (zI a) :: rest)) := by
  refine lv_iand hexec hb hdg ?_
  rw [zAnd1 h]
  exact k
theorem z_ishl (hexec : p.tables.exec = Jvm.exec) (hb : c.code = cc) {w : Int} (hdg : decode cc pc = .ok (.ishl, 1)) (h : 0 ≤ w ∧ w ≤ 2) (k : W p l e R s m args below meth c H locs cells slots Q (F0 m (pc + 1) ls (.int (zI (zPw w)) :: rest))) : W p l e R s m args below meth c H locs cells slots Q (F0 m pc ls (.int (zI w) :: .int (zI 1) :: rest)) := by
  refine lv_ishl hexec hb hdg ?_
  have e : zI 1 <<< (zI w &&& 31) = zI (zPw w) := zSmall (P := fun _ w => zI 1 <<< (zI w &&& 31) = zI (zPw w)) (by decide +kernel) (x := 0) (by omega) h
  rw [e]
  exact k
theorem z_ior (hexec : p.tables.exec = Jvm.exec) (hb : c.code = cc) {a w : Int} (hdg : decode cc pc = .ok (.ior, 1)) (h : (0 ≤ a ∧ a ≤ 7) ∧ 0 ≤ w ∧ w ≤ 2) (k : W p l e R s m args below meth c H locs cells slots Q (F0 m (pc + 1) ls (.int (zI (zSet a w)) :: rest))) : W p l e R s m args below meth c H locs cells slots Q (F0 m pc ls (.int (zI (zPw w)) :: .int (zI a) :: rest)) := by
  refine lv_ior hexec hb hdg ?_
  have e : zI a ||| zI (zPw w) = zI (zSet a w) := zSmall (P := fun a w => zI a ||| zI (zPw w) = zI (zSet a w)) (by decide +kernel) h.1 h.2
  rw [e]
  exact k
theorem z_inot (hexec : p.tables.exec = Jvm.exec) (hb : c.code = cc) {w : Int} (hdg : decode cc pc = .ok (.ixor, 1)) (h : 0 ≤ w ∧ w ≤ 2) (k : W p l e R s m args below meth c H locs cells slots Q (F0 m (pc + 1) ls (.int (zI (-1 - zPw w)) :: rest))) : W p l e R s m args below meth c H locs cells slots Q (F0 m pc ls (.int (zI (-1)) :: .int (zI (zPw w)) :: rest)) := by
  refine lv_ixor hexec hb hdg ?_
  have e : zI (zPw w) ^^^ zI (-1) = zI (-1 - zPw w) := zSmall (P := fun _ w => zI (zPw w) ^^^ zI (-1) = zI (-1 - zPw w)) (by decide +kernel) (x := 0) (by omega) h
  rw [e]
  exact k
theorem z_iclr (hexec : p.tables.exec = Jvm.exec) (hb : c.code = cc) {a w : Int} (hdg : decode cc pc = .ok (.iand, 1)) (h : (0 ≤ a ∧ a ≤ 7) ∧ 0 ≤ w ∧ w ≤ 2) (k : W p l e R s m args below meth c H locs cells slots Q (F0 m (pc + 1) ls (.int (zI (zClr a w)) :: rest))) : W p l e R s m args below meth c H locs cells slots Q (F0 m pc ls (.int (zI (-1 - zPw w)) :: .int (zI a) :: rest)) := by
  refine lv_iand hexec hb hdg ?_
  have e : zI a &&& zI (-1 - zPw w) = zI (zClr a w) := zSmall (P := fun a w => zI a &&& zI (-1 - zPw w) = zI (zClr a w)) (by decide +kernel) h.1 h.2
  rw [e]
  exact k
end ZB
def zth_tide (d r : Int) : Int := if (10 ≤ d ∧ d ≤ 300) ∧ (0 ≤ r ∧ r ≤ 200) then 0 else 1
def zst_tide (σ : zT) (d r : Int) : zT := zup (zup σ 2 0 d) 3 0 r
def zth_tugs (n : Int) : Int := if 0 ≤ n ∧ n ≤ 6 then 0 else 1
def zan_tugs (σ : zT) : Int := σ 4 0
def zst_tugs (σ : zT) (n : Int) : zT := zup σ 4 0 n
def zth_ship (σ : zT) (d t n g : Int) : Int := if ¬ ((1 ≤ d ∧ d ≤ 400) ∧ (1 ≤ t ∧ t ≤ 9999) ∧ (10 ≤ n ∧ n ≤ 120) ∧ (0 ≤ g ∧ g ≤ 3)) then 1 else if σ 5 0 = 12 then 2 else 0
def zan_ship (σ : zT) : Int := σ 5 0
def zst_ship (σ : zT) (d t n g : Int) : zT := zup (zup (zup (zup (zup σ 6 (σ 5 0) d) 7 (σ 5 0) t) 8 (σ 5 0) n) 9 (σ 5 0) g) 5 0 (σ 5 0 + 1)
def zth_pilot (σ : zT) (a r : Int) : Int := if ¬ ((1 ≤ a ∧ a ≤ 9999) ∧ (1 ≤ r ∧ r ≤ 50)) then 1 else if σ 11 0 = 8 then 2 else 0
def zan_pilot (σ : zT) : Int := σ 11 0
def zst_pilot (σ : zT) (a r : Int) : zT := zup (zup (zup σ 12 (σ 11 0) a) 13 (σ 11 0) r) 11 0 (σ 11 0 + 1)
def zth_call (σ : zT) (k w : Int) : Int := if ¬ (0 ≤ k ∧ k < σ 5 0) then 1 else if ¬ (σ 1 0 ≤ w ∧ w ≤ 20000) then 2 else if σ 14 0 = 40 then 3 else 0
def zan_call (σ : zT) : Int := σ 14 0
def zst_call (σ : zT) (k w : Int) : zT := zup (zup (zup (zup (zup (zup σ 15 (σ 14 0) k) 16 (σ 14 0) w) 18 (σ 14 0) (-1)) 20 (σ 14 0) (-1)) 19 (σ 14 0) 0) 14 0 (σ 14 0 + 1)
def zth_join (σ : zT) (k w q : Int) : Int := if ¬ ((0 ≤ k ∧ k < σ 14 0) ∧ (0 ≤ w ∧ w ≤ 2) ∧ (w = 2 → 0 ≤ q ∧ q < σ 11 0)) then 1 else if zBit (σ 17 k) w = 1 ∨ (w = 2 ∧ σ 12 q < σ 7 (σ 15 k)) then 2 else 0
def zjn (σ : zT) (k w q : Int) : zT := if w = 2 then zup (zup σ 17 k (zSet (σ 17 k) w)) 18 k q else zup σ 17 k (zSet (σ 17 k) w)
noncomputable def zst_join (σ : zT) (k w q : Int) : zT := if zSet (σ 17 k) w = 7 then zLook (zjn σ k w q) k else zjn σ k w q
noncomputable def zan_join (σ : zT) (k w q : Int) : Int := zst_join σ k w q 20 k
def zth_again (σ : zT) (k : Int) : Int := if ¬ (0 ≤ k ∧ k < σ 14 0) then 1 else if σ 19 k = 1 then 0 else 2
noncomputable def zst_again (σ : zT) (k : Int) : zT := zLook σ k
noncomputable def zan_again (σ : zT) (k : Int) : Int := zst_again σ k 20 k
def zth_drop (σ : zT) (k w : Int) : Int := if ¬ ((0 ≤ k ∧ k < σ 14 0) ∧ (0 ≤ w ∧ w ≤ 2)) then 1 else if zBit (σ 17 k) w ≠ 1 ∨ 3 ≤ σ 19 k then 2 else 0
/-- the others look anew: behind n of them, the table and how many have another slot -/
noncomputable def zDrops (σ : zT) : Nat → zT × Int
  | 0 => (σ, 0)
  | n + 1 => if (zDrops σ n).1 19 n = 1 ∨ (zDrops σ n).1 19 n = 2 then (zLook (zDrops σ n).1 n, (zDrops σ n).2 + (if zLook (zDrops σ n).1 n 20 n = (zDrops σ n).1 20 n then 0 else 1)) else zDrops σ n
def zdr (σ : zT) (k w : Int) : zT := zup (zup (zup (zup σ 17 k (zClr (σ 17 k) w)) 18 k (if w = 2 then -1 else σ 18 k)) 20 k (-1)) 19 k 0
noncomputable def zan_drop (σ : zT) (k w : Int) : Int := if σ 19 k = 2 then (zDrops (zdr σ k w) (σ 14 0).toNat).2 else 0
noncomputable def zst_drop (σ : zT) (k w : Int) : zT := zup (if σ 19 k = 2 then (zDrops (zdr σ k w) (σ 14 0).toNat).1 else zdr σ k w) 21 0 (σ 21 0 + zan_drop σ k w)
def zth_pass (σ : zT) (n : Int) : Int := if ¬ (1 ≤ n ∧ n ≤ 2000) then 1 else if 20000 < σ 1 0 + n then 2 else 0
/-- what a conference is at minute t (of those ahead of n) -/
def zSt (σ : zT) (n t c : Int) : Int := if (0 ≤ c ∧ c < n) ∧ (σ 19 c = 2 ∨ σ 19 c = 3) then (if zOv σ c ≤ t then 4 else if σ 20 c ≤ t then 3 else 2) else σ 19 c
/-- its move is done by that, now -/
def zNew (σ : zT) (t c : Int) : Prop := (σ 19 c = 2 ∨ σ 19 c = 3) ∧ zOv σ c ≤ t
def zBill (σ : zT) (c : Int) : Int := σ 8 (σ 15 c) * σ 13 (σ 18 c) + 100 * σ 9 (σ 15 c)
noncomputable def zNewV (σ : zT) (t c : Int) (P : Prop) (v : Int) : Int := @ite Int (zNew σ t c ∧ P) (Classical.propDecidable _) v 0
noncomputable def zAdv (σ : zT) (n t : Int) : zT := fun j i =>
  if j = 1 then (if i = 0 then t else σ 1 i) else if j = 19 then zSt σ n t i
  else if j = 10 then σ 10 i + zSum (fun c => zNewV σ t c (σ 15 c = i) (zBill σ c)) n.toNat
  else if j = 30 then σ 30 i + zSum (fun c => zNewV σ t c (σ 18 c = i) 1) n.toNat
  else if j = 31 then σ 31 i + zSum (fun c => zNewV σ t c (σ 18 c = i) (σ 8 (σ 15 c))) n.toNat
  else σ j i
noncomputable def zst_pass (σ : zT) (n : Int) : zT := zAdv σ (σ 14 0) (σ 1 0 + n)
noncomputable def zan_pass (σ : zT) (n : Int) : Int := zSum (fun c => zNewV σ (σ 1 0 + n) c True 1) (σ 14 0).toNat
def zth_level (t : Int) : Int := if 0 ≤ t ∧ t ≤ 30000 then 0 else 1
def zth_window (σ : zT) (k t : Int) : Int := if ¬ (0 ≤ k ∧ k < σ 5 0) then 1 else if 0 ≤ t ∧ t ≤ 20000 then 0 else 2
noncomputable def zan_window (σ : zT) (k t : Int) : Int := zSrch (zTideOk σ k) 1441 t
def zth_ofC (σ : zT) (k w : Int) : Int := if (0 ≤ k ∧ k < σ 14 0) ∧ (0 ≤ w ∧ w ≤ 4) then 0 else 1
def zMany (x : Int) : Int := x % 2 + x / 2 % 2 + x / 4 % 2
def zan_ofC (σ : zT) (k w : Int) : Int := if w = 0 then σ 19 k else if w = 1 then σ 20 k else if w = 2 then σ 18 k else if w = 3 then zMany (σ 17 k) else σ 15 k
def zth_why (σ : zT) (k t : Int) : Int := if ¬ (0 ≤ k ∧ k < σ 14 0) then 1 else if ¬ (σ 1 0 ≤ t ∧ t ≤ 21440) then 2 else if σ 18 k = -1 then 3 else 0
noncomputable def zIf (P : Prop) (a b : Int) : Int := @ite Int P (Classical.propDecidable _) a b
noncomputable def zan_why (σ : zT) (k t : Int) : Int := zIf (¬ zTideOk σ (σ 15 k) t) 1 (zIf (¬ zRestOk σ k t) 2 (zIf (¬ zTugOk σ k t) 3 (zIf (zChanOk σ k t) 0 4)))
def zth_pil (σ : zT) (k : Int) : Int := if 0 ≤ k ∧ k < σ 11 0 then 0 else 1
/-- behind the slots of the first n conferences -/
def zRsd (σ : zT) (k : Int) : Nat → Int
  | 0 => σ 1 0
  | n + 1 => if 2 ≤ σ 19 n ∧ σ 18 n = k ∧ zRsd σ k n < zOv σ n + zRest (zTk σ n) then zOv σ n + zRest (zTk σ n) else zRsd σ k n
def zan_rested (σ : zT) (k : Int) : Int := zRsd σ k (σ 14 0).toNat
def zth_bill (σ : zT) (k : Int) : Int := if 0 ≤ k ∧ k < σ 5 0 then 0 else 1
def zth_ofP (σ : zT) (k w : Int) : Int := if (0 ≤ k ∧ k < σ 11 0) ∧ (0 ≤ w ∧ w ≤ 3) then 0 else 1
def zP1 (σ : zT) (k st v : Int) (c : Int) : Int := if σ 18 c = k ∧ σ 19 c = st then v else 0
def zan_ofP (σ : zT) (k w : Int) : Int := if w = 0 then zSum (fun c => zP1 σ k 4 1 c) (σ 14 0).toNat else if w = 1 then zSum (fun c => zP1 σ k 4 (σ 8 (σ 15 c)) c) (σ 14 0).toNat else if w = 2 then (if 0 < zSum (fun c => zP1 σ k 3 1 c) (σ 14 0).toNat then 1 else 0) else zSum (fun c => zP1 σ k 4 (σ 8 (σ 15 c) * σ 13 k) c) (σ 14 0).toNat
def zth_count (w : Int) : Int := if 0 ≤ w ∧ w ≤ 7 then 0 else 1
def zan_count (σ : zT) (w : Int) : Int := if w = 6 then zSum (σ 10) (σ 5 0).toNat else if w = 7 then σ 21 0 else if w = 5 then zSum (fun c => if σ 19 c = 3 then σ 9 (σ 15 c) else 0) (σ 14 0).toNat else zSum (fun c => if σ 19 c = w then 1 else 0) (σ 14 0).toNat
/-- what a call of the reference leaves: its answer and table, or the throw's number alone -/
def zPost (th an : Int) (σ1 σe : zT) : Option Value → zT → Prop := fun r σ' => (th = 0 → r = some (.int (zI an)) ∧ σ' = σ1) ∧ (th ≠ 0 → (∃ z, r = some (.int (zI z))) ∧ σ' = σe)
theorem zPost_ok {th an a : Int} {σ1 σe σ' : zT} (ht : th = 0) (ha : a = an) (hs : σ' = σ1) : zPost th an σ1 σe (some (.int (zI a))) σ' := ⟨fun _ => ⟨by rw [ha], hs⟩, fun h => absurd ht h⟩
theorem zPost_no {th an a k : Int} {σ1 σ : zT} (ht : th = k) (hk : k ≠ 0) : zPost th an σ1 (zup σ 0 0 th) (some (.int (zI a))) (zup σ 0 0 k) := ⟨fun h => absurd (ht.symm.trans h) hk, fun _ => ⟨⟨a, rfl⟩, by rw [ht]⟩⟩
theorem zLook_20 (σ : zT) (k : Int) : zLook σ k 20 k = zFind σ k := by unfold zLook; rw [zup_t (t := 19) (t' := 20) (by decide), zup_s]
