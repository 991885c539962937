/-! the class: its search -/
theorem zFind_max (σ : zT) (c : Int) : zFind σ c = zSrch (zOk σ c) 1441 (max (σ 16 c) (σ 1 0)) := by
  unfold zFind
  rw [show (if σ 1 0 < σ 16 c then σ 16 c else σ 1 0) = max (σ 16 c) (σ 1 0) by split <;> omega]
theorem zStep_le {P : Int → Prop} {t z : Int} (h : zStep P t z) : t ≤ z := by rcases h.1 with q | q <;> omega
theorem zChain {T R C G : Int → Prop} {t a b c d : Int} (h1 : zStep T t a) (h2 : zStep R a b) (h3 : zStep C b c) (h4 : zStep G c d) : (d = t → T t ∧ C t ∧ R t ∧ G t) ∧ t ≤ d ∧ d ≤ t + 120000 ∧ ∀ u, t ≤ u → u < d → ¬ (T u ∧ C u ∧ R u ∧ G u) := by
  have b1 := h1.2
  have b2 := h2.2
  have b3 := h3.2
  have b4 := h4.2
  have e1 : t ≤ a := by rcases h1.1 with q | q <;> omega
  have e2 : a ≤ b := by rcases h2.1 with q | q <;> omega
  have e3 : b ≤ c := by rcases h3.1 with q | q <;> omega
  have e4 : c ≤ d := by rcases h4.1 with q | q <;> omega
  refine ⟨fun e => ?_, by omega, by omega, fun u x y q => ?_⟩
  · have f1 : a = t := by omega
    have f2 : b = t := by omega
    have f3 : c = t := by omega
    subst f1 f2 f3 e
    refine ⟨?_, ?_, ?_, ?_⟩
    · rcases h1.1 with q | q
      · exact q.2
      · omega
    · rcases h3.1 with q | q
      · exact q.2
      · omega
    · rcases h2.1 with q | q
      · exact q.2
      · omega
    · rcases h4.1 with q | q
      · exact q.2
      · omega
  · by_cases c1 : u < a
    · rcases h1.1 with z | z
      · omega
      · exact z.2 u x c1 q.1
    by_cases c2 : u < b
    · rcases h2.1 with z | z
      · omega
      · exact z.2 u (by omega) c2 q.2.2.1
    by_cases c3 : u < c
    · rcases h3.1 with z | z
      · omega
      · exact z.2 u (by omega) c3 q.2.1
    rcases h4.1 with z | z
    · omega
    · exact z.2 u (by omega) y q.2.2.2
theorem lk_X4_earliestSlot_241 : Cond.fieldLink RX4 241 "HarbourPilotline$Conference" "wish" "I" ∈ wsX4_earliestSlot := by decide +kernel
theorem lk_X4_earliestSlot_68 : Cond.fieldLink RX4 68 "HarbourPilotline" "now" "I" ∈ wsX4_earliestSlot := by decide +kernel
theorem ml_X4_earliestSlot_161_0 : Cond.methodLink RX4 161 Lib.Math.max.name ∈ wsX4_earliestSlot := by decide +kernel
theorem ml_X4_earliestSlot_161_1 : Cond.static Lib.Math.max.name ∈ wsX4_earliestSlot := by decide +kernel
theorem ml_X4_earliestSlot_161_2 : Cond.initialized "java/lang/Math" ∈ wsX4_earliestSlot := by decide +kernel
theorem ml_X4_earliestSlot_161_3 : Cond.code Lib.Math.max.name Lib.Math.max.code 2 (some .int) ∈ wsX4_earliestSlot := by decide +kernel
theorem lk_X4_earliestSlot_10 : Cond.fieldLink RX4 10 "HarbourPilotline" "tide" "LHarbourPilotline$Tide;" ∈ wsX4_earliestSlot := by decide +kernel
theorem lk_X4_earliestSlot_102 : Cond.fieldLink RX4 102 "HarbourPilotline$Conference" "ship" "LHarbourPilotline$Ship;" ∈ wsX4_earliestSlot := by decide +kernel
theorem in_X4_earliestSlot_X0 : ∀ w ∈ wsX00, w ∈ wsX4_earliestSlot := by decide +kernel
theorem in_X4_earliestSlot_X4 : ∀ w ∈ wsX40, w ∈ wsX4_earliestSlot := by decide +kernel
set_option maxRecDepth 100000 in
set_option maxHeartbeats 4000000 in
theorem c_X4_earliestSlot (l : Launch) (D : va_G) (cI cO cL : ClassId) (A : Nat → Prop) (eE : Nat) (g : zG) (σ : zT) (H0 : Heap) (hR : RX D cO A eE g σ H0) (k : Int) (hI : zInv σ) (hk : 0 ≤ k ∧ k < σ 14 0) : zPM l yX4_earliestSlot wsX4_earliestSlot ({ frames := 5, cells := 0, slots := 0, locals := 115 }) (zKK D cI cO cL) [.ref (g 0 0), .ref (g 6 k)] H0 (fun r => r = .int (zI (zFind σ k))) := by
  refine Met.ofW (cc := cX4_earliestSlot) (maxL := 6) (ret := (some .int)) (by decide) rfl ?_
  intro p e s m args below meth c s₁ B hml hv
  obtain ⟨rfl, hH, hK⟩ := hv
  subst hH
  have hx := B.exec
  have hb := B.bytes
  have hr := B.returns
  have hts := atoms_spec (ws := wsX4_earliestSlot) B.pre
  have hown : s.vm.findClass RX4 = some m.cls := findClass_of_methodNamed B.named
  have hlocks := B.notSynchronized
  have hl := lv_entry ([.ref (g 0 0), .ref (g 6 k)]) (n := 6) (Nat.le_of_ble_eq_true rfl)
  rw [lg_entry_eq]
  generalize (lg_sl ([.ref (g 0 0), .ref (g 6 k)]) ++ List.replicate (6 - (lg_sl ([.ref (g 0 0), .ref (g 6 k)])).length) Slot.unset).toArray = ls at hl ⊢
  have hl : lv_has ls 6 [(0, .ref (g 0 0)), (1, .ref (g 6 k))] := hl
  have f0 := hI.r
  have fk := hI.c hk
  have gk := hI.s (i := σ 15 k) (by omega)
  have rk := zRest_r (σ 8 (σ 15 k))
  refine lv_aload_n hx hb dX4_earliestSlot_0 rfl (lv_at hl 1 rfl) ?_
  refine z_get hx hb hts in_X4_earliestSlot_X0 hown hK (hR.c (i := k) (by omega)) rfl 1 (by decide) lk_X4_earliestSlot_241 rfl rfl dX4_earliestSlot_1 ?_
  refine lv_aload_n hx hb dX4_earliestSlot_4 rfl (lv_at hl 0 rfl) ?_
  refine z_get hx hb hts in_X4_earliestSlot_X4 hown hK hR.x rfl 5 (by decide) lk_X4_earliestSlot_68 rfl rfl dX4_earliestSlot_5 ?_
  refine z_mmax hx hb (hml.trans hl.1.symm) hts hown ml_X4_earliestSlot_161_0 ml_X4_earliestSlot_161_1 ml_X4_earliestSlot_161_2 ml_X4_earliestSlot_161_3 (Nat.le_of_ble_eq_true rfl) (Nat.le_of_ble_eq_true rfl) ⟨Nat.zero_le _, Nat.zero_le _⟩ (by omega) dX4_earliestSlot_8 ?_
  refine lv_istore_n (lv' := [(2, .int (zI (max (σ 16 k) (σ 1 0)))), (0, .ref (g 0 0)), (1, .ref (g 6 k))]) hx hb dX4_earliestSlot_11 rfl hl (by decide) rfl (fun ls hl => ?_)
  refine lv_iload_n hx hb dX4_earliestSlot_12 rfl (lv_at hl 0 rfl) ?_
  refine z_sipush hx hb dX4_earliestSlot_13 (by decide +kernel) ?_
  refine z_iadd hx hb dX4_earliestSlot_16 ?_
  refine lv_istore_n (lv' := [(3, .int (zI ((max (σ 16 k) (σ 1 0)) + 1440))), (2, .int (zI (max (σ 16 k) (σ 1 0)))), (0, .ref (g 0 0)), (1, .ref (g 6 k))]) hx hb dX4_earliestSlot_17 rfl hl (by decide) rfl (fun ls hl => ?_)
  refine lv_iload_n hx hb dX4_earliestSlot_18 rfl (lv_at hl 1 rfl) ?_
  refine lv_istore (lv' := [(4, .int (zI (max (σ 16 k) (σ 1 0)))), (3, .int (zI ((max (σ 16 k) (σ 1 0)) + 1440))), (2, .int (zI (max (σ 16 k) (σ 1 0)))), (0, .ref (g 0 0)), (1, .ref (g 6 k))]) hx hb dX4_earliestSlot_19 hl (by decide) rfl (fun ls hl => ?_)
  refine z_cap (fun WW wi wo => ?_)
  have hL : ∀ (n : Nat) (i : Int) (ls : Array Slot), (max (σ 16 k) (σ 1 0)) ≤ i ∧ i ≤ 200000 → (∀ u : Int, max (σ 16 k) (σ 1 0) ≤ u → u < i → ¬ zOk σ k u) → (max (σ 16 k) (σ 1 0) + 1441 - i).toNat < n → lv_has ls 6 [(3, .int (zI ((max (σ 16 k) (σ 1 0)) + 1440))), (2, .int (zI (max (σ 16 k) (σ 1 0)))), (0, .ref (g 0 0)), (1, .ref (g 6 k)), (4, .int (zI i))] → WW s.heap [] 0 0 (F0 m 21 ls []) := by
    intro n
    induction n with
    | zero => intro i ls hi ha hm; exact absurd hm (Nat.not_lt_zero _)
    | succ n ih =>
      intro i ls hi ha hm hl
      refine wi _ _ _ _ _ ?_
      refine lv_iload hx hb dX4_earliestSlot_21 (lv_at hl 4 rfl) ?_
      refine lv_iload_n hx hb dX4_earliestSlot_23 rfl (lv_at hl 0 rfl) ?_
      refine z_icmp_gt (tgt := 93) hx hb dX4_earliestSlot_24 (by decide) (by omega) (fun c_1 => ?_) (fun c_1 => ?_)
      · refine z_iconst hx hb dX4_earliestSlot_93 ?_
        exact W.iret hx hb hr (z_end (post := fun r => r = .int (zI (zFind σ k))) (z_eq (a := (-1)) (b := zFind σ k) (by rw [zFind_max]; exact (zSrch_no (fun m a b => ha m a (by omega))).symm))) (fun _ h => nomatch h) dX4_earliestSlot_94
      · refine lv_aload_n hx hb dX4_earliestSlot_27 rfl (lv_at hl 2 rfl) ?_
        refine z_get hx hb hts in_X4_earliestSlot_X4 hown hK hR.x rfl 0 (by decide) lk_X4_earliestSlot_10 rfl rfl dX4_earliestSlot_28 ?_
        refine lv_aload_n hx hb dX4_earliestSlot_31 rfl (lv_at hl 3 rfl) ?_
        refine z_get hx hb hts in_X4_earliestSlot_X0 hown hK (hR.c (i := k) (by omega)) rfl 0 (by decide) lk_X4_earliestSlot_102 rfl rfl dX4_earliestSlot_32 ?_
        refine lv_iload hx hb dX4_earliestSlot_35 (lv_at hl 4 rfl) ?_
        refine z_cv (As := [.ref (g 4 (σ 15 k)), .int (zI i)]) (rest := []) ⟨hx, hb, hml, hown, hts⟩ (c_X3_pastShallows l D cI cO cL A eE g σ s.heap hR (σ 15 k) i hI (by omega) (by omega)) (cwV 2 hts gX4_earliestSlot_X3_pastShallows rfl rfl rfl (by decide +kernel) ⟨Nat.le_of_ble_eq_true rfl, Nat.le_of_ble_eq_true rfl⟩) (zKK_mv D cI cO cL) (fun U _ hv => va_K.moved hv hK) (z_recv hK hR.t rfl) rfl hl.1 rfl (Nat.le_of_ble_eq_true rfl) dX4_earliestSlot_37 ⟨Nat.zero_le _, Nat.zero_le _⟩ (fun r_2 ⟨r_2z, hr_2, hpr_2⟩ => ?_)
        rw [hr_2]
        have bhpr_2 := hpr_2.2
        have hpr_2l := zStep_le hpr_2
        refine lv_istore (lv' := [(5, .int (zI r_2z)), (3, .int (zI ((max (σ 16 k) (σ 1 0)) + 1440))), (2, .int (zI (max (σ 16 k) (σ 1 0)))), (0, .ref (g 0 0)), (1, .ref (g 6 k)), (4, .int (zI i))]) hx hb dX4_earliestSlot_40 hl (by decide) rfl (fun ls hl => ?_)
        refine lv_aload_n hx hb dX4_earliestSlot_42 rfl (lv_at hl 3 rfl) ?_
        refine lv_aload_n hx hb dX4_earliestSlot_43 rfl (lv_at hl 4 rfl) ?_
        refine lv_iload hx hb dX4_earliestSlot_44 (lv_at hl 0 rfl) ?_
        refine z_cv (As := [.ref (g 6 k), .int (zI r_2z)]) (rest := []) ⟨hx, hb, hml, hown, hts⟩ (c_X4_pastRests l D cI cO cL A eE g σ s.heap hR k r_2z hI (by omega) (by omega)) (cwV 2 hts gX4_earliestSlot_X4_pastRests rfl rfl rfl (by decide +kernel) ⟨Nat.le_of_ble_eq_true rfl, Nat.le_of_ble_eq_true rfl⟩) (zKK_mv D cI cO cL) (fun U _ hv => va_K.moved hv hK) (z_recv hK hR.x rfl) rfl hl.1 rfl (Nat.le_of_ble_eq_true rfl) dX4_earliestSlot_46 ⟨Nat.zero_le _, Nat.zero_le _⟩ (fun r_3 ⟨r_3z, hr_3, hpr_3⟩ => ?_)
        rw [hr_3]
        have bhpr_3 := hpr_3.2
        have hpr_3l := zStep_le hpr_3
        refine lv_istore (lv' := [(5, .int (zI r_3z)), (3, .int (zI ((max (σ 16 k) (σ 1 0)) + 1440))), (2, .int (zI (max (σ 16 k) (σ 1 0)))), (0, .ref (g 0 0)), (1, .ref (g 6 k)), (4, .int (zI i))]) hx hb dX4_earliestSlot_49 hl (by decide) rfl (fun ls hl => ?_)
        refine lv_aload_n hx hb dX4_earliestSlot_51 rfl (lv_at hl 3 rfl) ?_
        refine lv_aload_n hx hb dX4_earliestSlot_52 rfl (lv_at hl 4 rfl) ?_
        refine lv_iload hx hb dX4_earliestSlot_53 (lv_at hl 0 rfl) ?_
        refine z_cv (As := [.ref (g 6 k), .int (zI r_3z)]) (rest := []) ⟨hx, hb, hml, hown, hts⟩ (c_X4_pastChannel l D cI cO cL A eE g σ s.heap hR k r_3z hI (by omega) (by omega)) (cwV 2 hts gX4_earliestSlot_X4_pastChannel rfl rfl rfl (by decide +kernel) ⟨Nat.le_of_ble_eq_true rfl, Nat.le_of_ble_eq_true rfl⟩) (zKK_mv D cI cO cL) (fun U _ hv => va_K.moved hv hK) (z_recv hK hR.x rfl) rfl hl.1 rfl (Nat.le_of_ble_eq_true rfl) dX4_earliestSlot_55 ⟨Nat.zero_le _, Nat.zero_le _⟩ (fun r_4 ⟨r_4z, hr_4, hpr_4⟩ => ?_)
        rw [hr_4]
        have bhpr_4 := hpr_4.2
        have hpr_4l := zStep_le hpr_4
        refine lv_istore (lv' := [(5, .int (zI r_4z)), (3, .int (zI ((max (σ 16 k) (σ 1 0)) + 1440))), (2, .int (zI (max (σ 16 k) (σ 1 0)))), (0, .ref (g 0 0)), (1, .ref (g 6 k)), (4, .int (zI i))]) hx hb dX4_earliestSlot_58 hl (by decide) rfl (fun ls hl => ?_)
        refine lv_aload_n hx hb dX4_earliestSlot_60 rfl (lv_at hl 3 rfl) ?_
        refine lv_aload_n hx hb dX4_earliestSlot_61 rfl (lv_at hl 4 rfl) ?_
        refine lv_iload hx hb dX4_earliestSlot_62 (lv_at hl 0 rfl) ?_
        refine z_cv (As := [.ref (g 6 k), .int (zI r_4z)]) (rest := []) ⟨hx, hb, hml, hown, hts⟩ (c_X4_pastTugs l D cI cO cL A eE g σ s.heap hR k r_4z hI (by omega) (by omega)) (cwV 2 hts gX4_earliestSlot_X4_pastTugs rfl rfl rfl (by decide +kernel) ⟨Nat.le_of_ble_eq_true rfl, Nat.le_of_ble_eq_true rfl⟩) (zKK_mv D cI cO cL) (fun U _ hv => va_K.moved hv hK) (z_recv hK hR.x rfl) rfl hl.1 rfl (Nat.le_of_ble_eq_true rfl) dX4_earliestSlot_64 ⟨Nat.zero_le _, Nat.zero_le _⟩ (fun r_5 ⟨r_5z, hr_5, hpr_5⟩ => ?_)
        rw [hr_5]
        have bhpr_5 := hpr_5.2
        have ehpr_5 := hpr_5.1
        have hch := zChain hpr_2 hpr_3 hpr_4 hpr_5
        refine lv_istore (lv' := [(5, .int (zI r_5z)), (3, .int (zI ((max (σ 16 k) (σ 1 0)) + 1440))), (2, .int (zI (max (σ 16 k) (σ 1 0)))), (0, .ref (g 0 0)), (1, .ref (g 6 k)), (4, .int (zI i))]) hx hb dX4_earliestSlot_67 hl (by decide) rfl (fun ls hl => ?_)
        refine lv_iload hx hb dX4_earliestSlot_69 (lv_at hl 0 rfl) ?_
        refine lv_iload hx hb dX4_earliestSlot_71 (lv_at hl 5 rfl) ?_
        refine z_icmp_ne (tgt := 79) hx hb dX4_earliestSlot_73 (by decide) (by omega) (fun c_6 => ?_) (fun c_6 => ?_)
        · refine lv_iload hx hb dX4_earliestSlot_79 (lv_at hl 5 rfl) ?_
          refine z_iconst hx hb dX4_earliestSlot_81 ?_
          refine z_iadd hx hb dX4_earliestSlot_82 ?_
          refine lv_iload hx hb dX4_earliestSlot_83 (lv_at hl 0 rfl) ?_
          refine z_mmax hx hb (hml.trans hl.1.symm) hts hown ml_X4_earliestSlot_161_0 ml_X4_earliestSlot_161_1 ml_X4_earliestSlot_161_2 ml_X4_earliestSlot_161_3 (Nat.le_of_ble_eq_true rfl) (Nat.le_of_ble_eq_true rfl) ⟨Nat.zero_le _, Nat.zero_le _⟩ (by omega) dX4_earliestSlot_85 ?_
          refine lv_istore (lv' := [(4, .int (zI (max (i + 1) r_5z))), (5, .int (zI r_5z)), (3, .int (zI ((max (σ 16 k) (σ 1 0)) + 1440))), (2, .int (zI (max (σ 16 k) (σ 1 0)))), (0, .ref (g 0 0)), (1, .ref (g 6 k))]) hx hb dX4_earliestSlot_88 hl (by decide) rfl (fun ls hl => ?_)
          refine lv_goto (tgt := 21) hx hb dX4_earliestSlot_90 (by decide) ?_
          exact wo _ _ _ _ _ (ih (max (i + 1) r_5z) ls (by omega) (by intro u h1 h2; exact if q : u < i then ha u h1 q else hch.2.2.2 u (by omega) (by omega)) (by omega) (lv_sub hl [2, 3, 4, 5, 0] rfl))
        · refine lv_iload hx hb dX4_earliestSlot_76 (lv_at hl 5 rfl) ?_
          exact W.iret hx hb hr (z_end (post := fun r => r = .int (zI (zFind σ k))) (z_eq (a := i) (b := zFind σ k) (by rw [zFind_max]; exact (zSrch_is 1441 _ _ (by omega) (by omega) (hch.1 (by omega)) (fun m a b => ha m a b)).symm))) (fun _ h => nomatch h) dX4_earliestSlot_78
  exact wo _ _ _ _ _ (hL _ (max (σ 16 k) (σ 1 0)) ls (by omega) (by intro u h1 h2; omega) (Nat.lt_succ_self _) (lv_sub hl [1, 2, 3, 4, 0] rfl))
