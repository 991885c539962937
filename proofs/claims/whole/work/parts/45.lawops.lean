/-! the law: a case at a time -/
set_option maxRecDepth 100000 in
set_option maxHeartbeats 4000000 in
theorem law_tide {p : Program} {e : Env} {s : State} {m : MethodId} {below : List Frame} {meth : Method} {c : Code} (l : Launch) {b L : Nat} {xs : Nat → Int32} {D : va_G} {cI cO cL : ClassId} {A : Nat → Prop} {eE mi : Nat} {sa : Nat → Nat} {x0 bm : Nat} {ma : Nat → Nat} {o h3 : Nat} {Q : State → Prop} (C0 : LC l p s m c b L xs D cI cO cL A eE mi sa bm ma o h3) (k : Nat) (hk : k + 5 ≤ L) {σ : zT} {H : Heap} {ls : Array Slot} (Z : LZ s D cI cO cL A eE x0 bm ma o h3 σ H) (hl : lv_has ls 7 [(0, .ref b), (1, .ref x0), (2, .ref bm), (3, .ref o), (4, .int (zI (k : Int)))]) (next : ∀ (σ : zT) (H : Heap) (ls : Array Slot), LZ s D cI cO cL A eE x0 bm ma o h3 σ H → lv_has ls 7 [(0, .ref b), (1, .ref x0), (2, .ref bm), (3, .ref o), (4, .int (zI (k : Int)))] → W p l e room_1 s m #[Value.ref b] below meth c H [] (20 + 2 * (k + 5)) (400 + 24 * (k + 5)) Q (F0 m 1285 ls [])) : W p l e room_1 s m #[Value.ref b] below meth c H [] (20 + 2 * k) (400 + 24 * k) Q (F0 m 128 ls []) := by
  obtain ⟨⟨hx, hb, hml, hown, hts⟩, ⟨hX, hbl, hL⟩, hK, hM, hfl, hpre, hA1, hAMo, hoo, hAM, hs3⟩ := C0
  obtain ⟨⟨g, hg, hR⟩, hRM, hZ, ⟨f0, hO⟩, hz3, hk3⟩ := Z
  have hs : s.heap.size ≤ H.size := by omega
  refine lv_aload_n hx hb dL_law_128 rfl (lv_at hl 1 rfl) ?_
  refine lv_aload_n hx hb dL_law_129 rfl (lv_at hl 0 rfl) ?_
  refine lv_iload hx hb dL_law_130 (lv_at hl 4 rfl) ?_
  refine z_iconst hx hb dL_law_132 ?_
  refine z_iadd hx hb dL_law_133 ?_
  refine z_sc hx hb hX hbl hL hs hk3 (by omega) dL_law_134 ?_
  refine lv_aload_n hx hb dL_law_135 rfl (lv_at hl 0 rfl) ?_
  refine lv_iload hx hb dL_law_136 (lv_at hl 4 rfl) ?_
  refine z_iconst hx hb dL_law_138 ?_
  refine z_iadd hx hb dL_law_139 ?_
  refine z_sc hx hb hX hbl hL hs hk3 (by omega) dL_law_140 ?_
  have hR0 : RX D cO A eE g (zup σ 0 0 0) H := hR.eq0 (fun k j hk => zup_t (fun q => hk (by rw [q]; rfl)))
  refine z_lS (As := [.ref x0, .int (zI (ya xs ((k : Int) + 1))), .int (zI (ya xs ((k : Int) + 2)))]) (rest := []) (P := zLP D cO cL A eE o g (zup σ 0 0 0) (zth_tide (ya xs ((k : Int) + 1)) (ya xs ((k : Int) + 2))) (zst_tide (zup σ 0 0 0) (ya xs ((k : Int) + 1)) (ya xs ((k : Int) + 2))) (fun _ => True)) ⟨hx, hb, hml, hown, hts⟩ (show zLM l yL_tide wsL_tide ({ frames := 8, cells := 2, slots := 12, locals := 126 }) D cI cO cL A eE mi sa o [.ref x0, .int (zI (ya xs ((k : Int) + 1))), .int (zI (ya xs ((k : Int) + 2)))] H _ by rw [← hg]; exact c_L_tide l hfl D cI cO cL A eE mi sa o g (zup σ 0 0 0) H f0 hR0 (zAll_th hZ 0) hO (fun z => (hA1 o z).1 rfl) (ya xs ((k : Int) + 1)) (ya xs ((k : Int) + 2)) (⟨ya_r xs _, ya_r xs _⟩)) (vx_cwSW 3 hts gL_law_L_tide rfl rfl rfl (by decide +kernel) ⟨(Nat.le_of_ble_eq_true rfl), (Nat.le_of_ble_eq_true rfl)⟩) (fun U hU hW => hpre U hW (by rw [hU]; exact hz3) (by rw [hU]; exact hk3)) rfl hl.1 rfl (Nat.le_of_ble_eq_true rfl) dL_law_141 ⟨by show 20 + 2 * k + 2 ≤ 601024; omega, by show 400 + 24 * k + 12 ≤ 7293033; omega⟩ (fun r1 H1 L1 hp1 hz1 hk1 hL1 => ?_)
  obtain ⟨e1, ⟨g1, hg1, hR1⟩, f1, hO1, hf1⟩ := hp1
  rw [e1]
  refine va_forget (fun q hq => by
    rcases List.mem_append.mp hq with z | z
    · cases z
    · rcases hL1 q z with w | w
      · exact (hA1 _ w).2.2
      · rw [w]; exact hoo.1) ?_
  have hs1 : s.heap.size ≤ H1.size := by omega
  have hk31 : ∀ q : Nat, q < s.heap.size → H1[q]? = s.heap[q]? := fun q hq => (hk1 q (by omega) (fun z => by
    rcases z with z | z
    · have := (hA1 q z).2.2; omega
    · omega)).trans (hk3 q hq)
  have hRM1 : RM D cI bm ma σ H1 := hRM.kept (fun q hq => hk1 q (by have := (hAM q hq).2; omega) (fun z => by
    rcases z with z | z
    · exact (hA1 q z).2.1 hq
    · rw [z] at hq; exact hAMo hq))
  refine lv_istore (lv' := [(5, .int (zI (zth_tide (ya xs ((k : Int) + 1)) (ya xs ((k : Int) + 2))))), (0, .ref b), (1, .ref x0), (2, .ref bm), (3, .ref o), (4, .int (zI (k : Int)))]) hx hb dL_law_144 hl (by decide) rfl (fun ls hl => ?_)
  refine lv_aload_n hx hb dL_law_146 rfl (lv_at hl 3 rfl) ?_
  refine lv_aload_n hx hb dL_law_147 rfl (lv_at hl 1 rfl) ?_
  refine lv_iload hx hb dL_law_148 (lv_at hl 5 rfl) ?_
  refine z_iconst hx hb dL_law_150 ?_
  refine z_iadd hx hb dL_law_151 ?_
  refine z_sc hx hb hX hbl hL hs1 hk31 (by omega) dL_law_152 ?_
  refine lv_aload_n hx hb dL_law_153 rfl (lv_at hl 1 rfl) ?_
  refine lv_iload hx hb dL_law_154 (lv_at hl 5 rfl) ?_
  refine z_iconst hx hb dL_law_156 ?_
  refine z_iadd hx hb dL_law_157 ?_
  refine z_sc hx hb hX hbl hL hs1 hk31 (by omega) dL_law_158 ?_
  refine z_wmL (As := [.int (zI (ya xs ((k : Int) + 1))), .int (zI (ya xs ((k : Int) + 2)))]) (rest := []) ⟨hx, hb, hml, hown, hts⟩ (c_X5_tide l D cI cO cL bm ma hM σ H1 hRM1 (ya xs ((k : Int) + 1)) (ya xs ((k : Int) + 2)) hZ.1 (ya_r xs _) (ya_r xs _)) (cwV 2 hts gL_law_X5_tide rfl rfl rfl (by decide +kernel) ⟨(Nat.le_of_ble_eq_true rfl), (Nat.le_of_ble_eq_true rfl)⟩) hK (m_recv hK hRM1) rfl hl.1 rfl (Nat.le_of_ble_eq_true rfl) dL_law_159 ⟨by show 20 + 2 * k + 2 ≤ 601024; omega, by show 400 + 24 * k + 12 ≤ 7293033; omega⟩ (fun rv σ' H2 L2 hp2 hRM2 hz2 hk2 hL2 => ?_)
  refine va_forget (fun q hq => by
    rcases List.mem_append.mp hq with z | z
    · cases z
    · exact (hAM _ (hL2 q z)).1) ?_
  have ht : 0 ≤ zth_tide (ya xs ((k : Int) + 1)) (ya xs ((k : Int) + 2)) ∧ zth_tide (ya xs ((k : Int) + 1)) (ya xs ((k : Int) + 2)) ≤ 3 := by unfold zth_tide; (repeat' split) <;> omega
  obtain ⟨e2, e5, e6⟩ := hp2
  rw [e2]
  have e4 : σ' 0 0 = zth_tide (ya xs ((k : Int) + 1)) (ya xs ((k : Int) + 2)) := by
    by_cases z : zth_tide (ya xs ((k : Int) + 1)) (ya xs ((k : Int) + 2)) = 0
    · rw [e5 z, z]; simp [zst_tide, zup]
    · rw [e6 z, zup_s]
  refine lv_aload_n hx hb dL_law_162 rfl (lv_at hl 3 rfl) ?_
  refine z_cv (As := []) (rest := []) ⟨hx, hb, hml, hown, hts⟩ (c_X5_thrown l D cI cO cL bm ma σ' H2 hRM2) (cwV 0 hts gL_law_X5_thrown rfl rfl rfl (by decide +kernel) ⟨(Nat.le_of_ble_eq_true rfl), (Nat.le_of_ble_eq_true rfl)⟩) (zKK_mv D cI cO cL) (fun U _ hv => va_K.moved hv hK) (m_recv hK hRM2) rfl hl.1 rfl (Nat.le_of_ble_eq_true rfl) dL_law_163 ⟨by show 20 + 2 * k + 2 ≤ 601024; omega, by show 400 + 24 * k + 12 ≤ 7293033; omega⟩ (fun r3 hr3 => ?_)
  rw [hr3, e4]
  refine lv_iload hx hb dL_law_166 (lv_at hl 0 rfl) ?_
  refine z_top (b := zth_tide (ya xs ((k : Int) + 1)) (ya xs ((k : Int) + 2))) rfl ?_
  refine z_icmp_eq (tgt := 173) hx hb dL_law_168 (by decide) (by omega) (fun _ => ?_) (fun c1 => absurd rfl c1)
  have hZ2 : zAll σ' := by
    by_cases z : zth_tide (ya xs ((k : Int) + 1)) (ya xs ((k : Int) + 2)) = 0
    · rw [e5 z]; exact zAll_tide (zAll_th hZ 0) z
    · rw [e6 z]; exact zAll_th hZ _
  refine lv_goto (tgt := 1285) hx hb dL_law_173 (by decide) ?_
  exact W.widen (k := 20 + 2 * (k + 5)) (n := 400 + 24 * (k + 5)) (by show 20 + 2 * k + 2 ≤ _; omega) (by show 400 + 24 * k + 12 ≤ _; omega) (next σ' H2 ls ⟨⟨g1, hg1.trans hg, zFin (th := zth_tide (ya xs ((k : Int) + 1)) (ya xs ((k : Int) + 2))) ((hR1.kept (fun q h1 h2 => hk2 q h1 (hA1 q h2).2.1))) e5 e6⟩, hRM2, hZ2, ⟨f1, hO1.kept (hk2 o (z_lt hO1) hAMo)⟩, by omega, fun q hq => (hk2 q (by omega) (fun z => by have := (hAM q z).1; omega)).trans (hk31 q hq)⟩ (lv_sub hl [1, 2, 3, 4, 5] rfl))

set_option maxRecDepth 100000 in
set_option maxHeartbeats 4000000 in
theorem law_tugs {p : Program} {e : Env} {s : State} {m : MethodId} {below : List Frame} {meth : Method} {c : Code} (l : Launch) {b L : Nat} {xs : Nat → Int32} {D : va_G} {cI cO cL : ClassId} {A : Nat → Prop} {eE mi : Nat} {sa : Nat → Nat} {x0 bm : Nat} {ma : Nat → Nat} {o h3 : Nat} {Q : State → Prop} (C0 : LC l p s m c b L xs D cI cO cL A eE mi sa bm ma o h3) (k : Nat) (hk : k + 5 ≤ L) {σ : zT} {H : Heap} {ls : Array Slot} (Z : LZ s D cI cO cL A eE x0 bm ma o h3 σ H) (hl : lv_has ls 7 [(0, .ref b), (1, .ref x0), (2, .ref bm), (3, .ref o), (4, .int (zI (k : Int)))]) (next : ∀ (σ : zT) (H : Heap) (ls : Array Slot), LZ s D cI cO cL A eE x0 bm ma o h3 σ H → lv_has ls 7 [(0, .ref b), (1, .ref x0), (2, .ref bm), (3, .ref o), (4, .int (zI (k : Int)))] → W p l e room_1 s m #[Value.ref b] below meth c H [] (20 + 2 * (k + 5)) (400 + 24 * (k + 5)) Q (F0 m 1285 ls [])) : W p l e room_1 s m #[Value.ref b] below meth c H [] (20 + 2 * k) (400 + 24 * k) Q (F0 m 176 ls []) := by
  obtain ⟨⟨hx, hb, hml, hown, hts⟩, ⟨hX, hbl, hL⟩, hK, hM, hfl, hpre, hA1, hAMo, hoo, hAM, hs3⟩ := C0
  obtain ⟨⟨g, hg, hR⟩, hRM, hZ, ⟨f0, hO⟩, hz3, hk3⟩ := Z
  have hs : s.heap.size ≤ H.size := by omega
  refine lv_aload_n hx hb dL_law_176 rfl (lv_at hl 1 rfl) ?_
  refine lv_aload_n hx hb dL_law_177 rfl (lv_at hl 0 rfl) ?_
  refine lv_iload hx hb dL_law_178 (lv_at hl 4 rfl) ?_
  refine z_iconst hx hb dL_law_180 ?_
  refine z_iadd hx hb dL_law_181 ?_
  refine z_sc hx hb hX hbl hL hs hk3 (by omega) dL_law_182 ?_
  refine lv_aload_n hx hb dL_law_183 rfl (lv_at hl 3 rfl) ?_
  have hR0 : RX D cO A eE g (zup σ 0 0 0) H := hR.eq0 (fun k j hk => zup_t (fun q => hk (by rw [q]; rfl)))
  refine z_lS (As := [.ref x0, .int (zI (ya xs ((k : Int) + 1))), .ref o]) (rest := []) (P := zLP D cO cL A eE o g (zup σ 0 0 0) (zth_tugs (ya xs ((k : Int) + 1))) (zst_tugs (zup σ 0 0 0) (ya xs ((k : Int) + 1))) (fun f => zth_tugs (ya xs ((k : Int) + 1)) = 0 → f 0 = (zI (zan_tugs (zup σ 0 0 0))).toInt64)) ⟨hx, hb, hml, hown, hts⟩ (show zLM l yL_tugs wsL_tugs ({ frames := 8, cells := 1, slots := 6, locals := 126 }) D cI cO cL A eE mi sa o [.ref x0, .int (zI (ya xs ((k : Int) + 1))), .ref o] H _ by rw [← hg]; exact c_L_tugs l hfl D cI cO cL A eE mi sa o g (zup σ 0 0 0) H f0 hR0 (zAll_th hZ 0) hO (fun z => (hA1 o z).1 rfl) (ya xs ((k : Int) + 1)) (ya_r xs _)) (vx_cwSW 3 hts gL_law_L_tugs rfl rfl rfl (by decide +kernel) ⟨(Nat.le_of_ble_eq_true rfl), (Nat.le_of_ble_eq_true rfl)⟩) (fun U hU hW => hpre U hW (by rw [hU]; exact hz3) (by rw [hU]; exact hk3)) rfl hl.1 rfl (Nat.le_of_ble_eq_true rfl) dL_law_184 ⟨by show 20 + 2 * k + 1 ≤ 601024; omega, by show 400 + 24 * k + 6 ≤ 7293033; omega⟩ (fun r1 H1 L1 hp1 hz1 hk1 hL1 => ?_)
  obtain ⟨e1, ⟨g1, hg1, hR1⟩, f1, hO1, hf1⟩ := hp1
  rw [e1]
  refine va_forget (fun q hq => by
    rcases List.mem_append.mp hq with z | z
    · cases z
    · rcases hL1 q z with w | w
      · exact (hA1 _ w).2.2
      · rw [w]; exact hoo.1) ?_
  have hs1 : s.heap.size ≤ H1.size := by omega
  have hk31 : ∀ q : Nat, q < s.heap.size → H1[q]? = s.heap[q]? := fun q hq => (hk1 q (by omega) (fun z => by
    rcases z with z | z
    · have := (hA1 q z).2.2; omega
    · omega)).trans (hk3 q hq)
  have hRM1 : RM D cI bm ma σ H1 := hRM.kept (fun q hq => hk1 q (by have := (hAM q hq).2; omega) (fun z => by
    rcases z with z | z
    · exact (hA1 q z).2.1 hq
    · rw [z] at hq; exact hAMo hq))
  refine lv_istore (lv' := [(5, .int (zI (zth_tugs (ya xs ((k : Int) + 1))))), (0, .ref b), (1, .ref x0), (2, .ref bm), (3, .ref o), (4, .int (zI (k : Int)))]) hx hb dL_law_187 hl (by decide) rfl (fun ls hl => ?_)
  refine lv_aload_n hx hb dL_law_189 rfl (lv_at hl 3 rfl) ?_
  refine lv_aload_n hx hb dL_law_190 rfl (lv_at hl 1 rfl) ?_
  refine lv_iload hx hb dL_law_191 (lv_at hl 5 rfl) ?_
  refine z_iconst hx hb dL_law_193 ?_
  refine z_iadd hx hb dL_law_194 ?_
  refine z_sc hx hb hX hbl hL hs1 hk31 (by omega) dL_law_195 ?_
  refine z_wmL (As := [.int (zI (ya xs ((k : Int) + 1)))]) (rest := []) ⟨hx, hb, hml, hown, hts⟩ (c_X5_tugs l D cI cO cL bm ma hM σ H1 hRM1 (ya xs ((k : Int) + 1)) hZ.1 (ya_r xs _)) (cwV 1 hts gL_law_X5_tugs rfl rfl rfl (by decide +kernel) ⟨(Nat.le_of_ble_eq_true rfl), (Nat.le_of_ble_eq_true rfl)⟩) hK (m_recv hK hRM1) rfl hl.1 rfl (Nat.le_of_ble_eq_true rfl) dL_law_196 ⟨by show 20 + 2 * k + 1 ≤ 601024; omega, by show 400 + 24 * k + 6 ≤ 7293033; omega⟩ (fun rv σ' H2 L2 hp2 hRM2 hz2 hk2 hL2 => ?_)
  refine va_forget (fun q hq => by
    rcases List.mem_append.mp hq with z | z
    · cases z
    · exact (hAM _ (hL2 q z)).1) ?_
  have ht : 0 ≤ zth_tugs (ya xs ((k : Int) + 1)) ∧ zth_tugs (ya xs ((k : Int) + 1)) ≤ 3 := by unfold zth_tugs; (repeat' split) <;> omega
  obtain ⟨z2, e2, e3, e4, e5, e6⟩ := zPost_x hp2 (show zst_tugs (zup σ 0 0 0) (ya xs ((k : Int) + 1)) 0 0 = 0 from by simp [zst_tugs, zup])
  rw [e2]
  refine lv_istore (lv' := [(6, .int (zI z2)), (5, .int (zI (zth_tugs (ya xs ((k : Int) + 1))))), (0, .ref b), (1, .ref x0), (2, .ref bm), (3, .ref o), (4, .int (zI (k : Int)))]) hx hb dL_law_199 hl (by decide) rfl (fun ls hl => ?_)
  refine lv_aload_n hx hb dL_law_201 rfl (lv_at hl 4 rfl) ?_
  refine z_cv (As := []) (rest := []) ⟨hx, hb, hml, hown, hts⟩ (c_X5_thrown l D cI cO cL bm ma σ' H2 hRM2) (cwV 0 hts gL_law_X5_thrown rfl rfl rfl (by decide +kernel) ⟨(Nat.le_of_ble_eq_true rfl), (Nat.le_of_ble_eq_true rfl)⟩) (zKK_mv D cI cO cL) (fun U _ hv => va_K.moved hv hK) (m_recv hK hRM2) rfl hl.1 rfl (Nat.le_of_ble_eq_true rfl) dL_law_202 ⟨by show 20 + 2 * k + 1 ≤ 601024; omega, by show 400 + 24 * k + 6 ≤ 7293033; omega⟩ (fun r3 hr3 => ?_)
  rw [hr3, e4]
  refine lv_iload hx hb dL_law_205 (lv_at hl 1 rfl) ?_
  refine z_top (b := zth_tugs (ya xs ((k : Int) + 1))) rfl ?_
  refine z_icmp_eq (tgt := 212) hx hb dL_law_207 (by decide) (by omega) (fun _ => ?_) (fun c1 => absurd rfl c1)
  have hZ2 : zAll σ' := by
    by_cases z : zth_tugs (ya xs ((k : Int) + 1)) = 0
    · rw [e5 z]; exact zAll_tugs (zAll_th hZ 0) z
    · rw [e6 z]; exact zAll_th hZ _
  refine lv_iload hx hb dL_law_212 (lv_at hl 1 rfl) ?_
  refine z_top (b := zth_tugs (ya xs ((k : Int) + 1))) rfl ?_
  refine z_if_ne (tgt := 229) hx hb dL_law_214 (by decide) (by omega) (fun c1 => ?_) (fun c1 => ?_)
  · refine lv_goto (tgt := 1285) hx hb dL_law_229 (by decide) ?_
    exact W.widen (k := 20 + 2 * (k + 5)) (n := 400 + 24 * (k + 5)) (by show 20 + 2 * k + 1 ≤ _; omega) (by show 400 + 24 * k + 6 ≤ _; omega) (next σ' H2 ls ⟨⟨g1, hg1.trans hg, zFin (th := zth_tugs (ya xs ((k : Int) + 1))) ((hR1.kept (fun q h1 h2 => hk2 q h1 (hA1 q h2).2.1))) e5 e6⟩, hRM2, hZ2, ⟨f1, hO1.kept (hk2 o (z_lt hO1) hAMo)⟩, by omega, fun q hq => (hk2 q (by omega) (fun z => by have := (hAM q z).1; omega)).trans (hk31 q hq)⟩ (lv_sub hl [2, 3, 4, 5, 6] rfl))
  refine lv_aload_n hx hb dL_law_217 rfl (lv_at hl 5 rfl) ?_
  refine z_iconst hx hb dL_law_218 ?_
  refine va_lald (ws := [(o, zOut cL f1)]) hx hb hK (z_P1 (hO1.kept (hk2 o (z_lt hO1) hAMo))) 0 2 rfl rfl (zI_in (n := 1) (by decide)) dL_law_219 ?_
  refine lv_iload hx hb dL_law_220 (lv_at hl 0 rfl) ?_
  refine lv_i2l hx hb dL_law_222 rfl ?_
  refine W.lcmp hx hb dL_law_223 ?_
  refine z_tov (w := .int (zI 0)) (by rw [show f1 (zI 0).toNatClampNeg = (zI z2).toInt64 by rw [show (zI 0).toNatClampNeg = 0 by decide, e3 c1]; exact hf1 c1, z_cmp_eq]) ?_
  refine z_if_eq (tgt := 229) hx hb dL_law_224 (by decide) (by decide) (fun _ => ?_) (fun c2 => absurd rfl c2)
  refine lv_goto (tgt := 1285) hx hb dL_law_229 (by decide) ?_
  exact W.widen (k := 20 + 2 * (k + 5)) (n := 400 + 24 * (k + 5)) (by show 20 + 2 * k + 1 ≤ _; omega) (by show 400 + 24 * k + 6 ≤ _; omega) (next σ' H2 ls ⟨⟨g1, hg1.trans hg, zFin (th := zth_tugs (ya xs ((k : Int) + 1))) ((hR1.kept (fun q h1 h2 => hk2 q h1 (hA1 q h2).2.1))) e5 e6⟩, hRM2, hZ2, ⟨f1, hO1.kept (hk2 o (z_lt hO1) hAMo)⟩, by omega, fun q hq => (hk2 q (by omega) (fun z => by have := (hAM q z).1; omega)).trans (hk31 q hq)⟩ (lv_sub hl [2, 3, 4, 5, 6] rfl))

set_option maxRecDepth 100000 in
set_option maxHeartbeats 4000000 in
theorem law_ship {p : Program} {e : Env} {s : State} {m : MethodId} {below : List Frame} {meth : Method} {c : Code} (l : Launch) {b L : Nat} {xs : Nat → Int32} {D : va_G} {cI cO cL : ClassId} {A : Nat → Prop} {eE mi : Nat} {sa : Nat → Nat} {x0 bm : Nat} {ma : Nat → Nat} {o h3 : Nat} {Q : State → Prop} (C0 : LC l p s m c b L xs D cI cO cL A eE mi sa bm ma o h3) (k : Nat) (hk : k + 5 ≤ L) {σ : zT} {H : Heap} {ls : Array Slot} (Z : LZ s D cI cO cL A eE x0 bm ma o h3 σ H) (hl : lv_has ls 7 [(0, .ref b), (1, .ref x0), (2, .ref bm), (3, .ref o), (4, .int (zI (k : Int)))]) (next : ∀ (σ : zT) (H : Heap) (ls : Array Slot), LZ s D cI cO cL A eE x0 bm ma o h3 σ H → lv_has ls 7 [(0, .ref b), (1, .ref x0), (2, .ref bm), (3, .ref o), (4, .int (zI (k : Int)))] → W p l e room_1 s m #[Value.ref b] below meth c H [] (20 + 2 * (k + 5)) (400 + 24 * (k + 5)) Q (F0 m 1285 ls [])) : W p l e room_1 s m #[Value.ref b] below meth c H [] (20 + 2 * k) (400 + 24 * k) Q (F0 m 232 ls []) := by
  obtain ⟨⟨hx, hb, hml, hown, hts⟩, ⟨hX, hbl, hL⟩, hK, hM, hfl, hpre, hA1, hAMo, hoo, hAM, hs3⟩ := C0
  obtain ⟨⟨g, hg, hR⟩, hRM, hZ, ⟨f0, hO⟩, hz3, hk3⟩ := Z
  have hs : s.heap.size ≤ H.size := by omega
  refine lv_aload_n hx hb dL_law_232 rfl (lv_at hl 1 rfl) ?_
  refine lv_aload_n hx hb dL_law_233 rfl (lv_at hl 0 rfl) ?_
  refine lv_iload hx hb dL_law_234 (lv_at hl 4 rfl) ?_
  refine z_iconst hx hb dL_law_236 ?_
  refine z_iadd hx hb dL_law_237 ?_
  refine z_sc hx hb hX hbl hL hs hk3 (by omega) dL_law_238 ?_
  refine lv_aload_n hx hb dL_law_239 rfl (lv_at hl 0 rfl) ?_
  refine lv_iload hx hb dL_law_240 (lv_at hl 4 rfl) ?_
  refine z_iconst hx hb dL_law_242 ?_
  refine z_iadd hx hb dL_law_243 ?_
  refine z_sc hx hb hX hbl hL hs hk3 (by omega) dL_law_244 ?_
  refine lv_aload_n hx hb dL_law_245 rfl (lv_at hl 0 rfl) ?_
  refine lv_iload hx hb dL_law_246 (lv_at hl 4 rfl) ?_
  refine z_iconst hx hb dL_law_248 ?_
  refine z_iadd hx hb dL_law_249 ?_
  refine z_sc hx hb hX hbl hL hs hk3 (by omega) dL_law_250 ?_
  refine lv_aload_n hx hb dL_law_251 rfl (lv_at hl 0 rfl) ?_
  refine lv_iload hx hb dL_law_252 (lv_at hl 4 rfl) ?_
  refine z_iconst hx hb dL_law_254 ?_
  refine z_iadd hx hb dL_law_255 ?_
  refine z_sc hx hb hX hbl hL hs hk3 (by omega) dL_law_256 ?_
  refine lv_aload_n hx hb dL_law_257 rfl (lv_at hl 3 rfl) ?_
  have hR0 : RX D cO A eE g (zup σ 0 0 0) H := hR.eq0 (fun k j hk => zup_t (fun q => hk (by rw [q]; rfl)))
  refine z_lS (As := [.ref x0, .int (zI (ya xs ((k : Int) + 1))), .int (zI (ya xs ((k : Int) + 2))), .int (zI (ya xs ((k : Int) + 3))), .int (zI (ya xs ((k : Int) + 4))), .ref o]) (rest := []) (P := zLP D cO cL A eE o g (zup σ 0 0 0) (zth_ship (zup σ 0 0 0) (ya xs ((k : Int) + 1)) (ya xs ((k : Int) + 2)) (ya xs ((k : Int) + 3)) (ya xs ((k : Int) + 4))) (zst_ship (zup σ 0 0 0) (ya xs ((k : Int) + 1)) (ya xs ((k : Int) + 2)) (ya xs ((k : Int) + 3)) (ya xs ((k : Int) + 4))) (fun f => zth_ship (zup σ 0 0 0) (ya xs ((k : Int) + 1)) (ya xs ((k : Int) + 2)) (ya xs ((k : Int) + 3)) (ya xs ((k : Int) + 4)) = 0 → f 0 = (zI (zan_ship (zup σ 0 0 0))).toInt64)) ⟨hx, hb, hml, hown, hts⟩ (show zLM l yL_ship wsL_ship ({ frames := 8, cells := 7, slots := 96, locals := 246 }) D cI cO cL A eE mi sa o [.ref x0, .int (zI (ya xs ((k : Int) + 1))), .int (zI (ya xs ((k : Int) + 2))), .int (zI (ya xs ((k : Int) + 3))), .int (zI (ya xs ((k : Int) + 4))), .ref o] H _ by rw [← hg]; exact c_L_ship l hfl D cI cO cL A eE mi sa o g (zup σ 0 0 0) H f0 hR0 (zAll_th hZ 0) hO (fun z => (hA1 o z).1 rfl) (ya xs ((k : Int) + 1)) (ya xs ((k : Int) + 2)) (ya xs ((k : Int) + 3)) (ya xs ((k : Int) + 4)) (⟨ya_r xs _, ya_r xs _, ya_r xs _, ya_r xs _⟩)) (vx_cwSW 6 hts gL_law_L_ship rfl rfl rfl (by decide +kernel) ⟨(Nat.le_of_ble_eq_true rfl), (Nat.le_of_ble_eq_true rfl)⟩) (fun U hU hW => hpre U hW (by rw [hU]; exact hz3) (by rw [hU]; exact hk3)) rfl hl.1 rfl (Nat.le_of_ble_eq_true rfl) dL_law_258 ⟨by show 20 + 2 * k + 7 ≤ 601024; omega, by show 400 + 24 * k + 96 ≤ 7293033; omega⟩ (fun r1 H1 L1 hp1 hz1 hk1 hL1 => ?_)
  obtain ⟨e1, ⟨g1, hg1, hR1⟩, f1, hO1, hf1⟩ := hp1
  rw [e1]
  refine va_forget (fun q hq => by
    rcases List.mem_append.mp hq with z | z
    · cases z
    · rcases hL1 q z with w | w
      · exact (hA1 _ w).2.2
      · rw [w]; exact hoo.1) ?_
  have hs1 : s.heap.size ≤ H1.size := by omega
  have hk31 : ∀ q : Nat, q < s.heap.size → H1[q]? = s.heap[q]? := fun q hq => (hk1 q (by omega) (fun z => by
    rcases z with z | z
    · have := (hA1 q z).2.2; omega
    · omega)).trans (hk3 q hq)
  have hRM1 : RM D cI bm ma σ H1 := hRM.kept (fun q hq => hk1 q (by have := (hAM q hq).2; omega) (fun z => by
    rcases z with z | z
    · exact (hA1 q z).2.1 hq
    · rw [z] at hq; exact hAMo hq))
  refine lv_istore (lv' := [(5, .int (zI (zth_ship (zup σ 0 0 0) (ya xs ((k : Int) + 1)) (ya xs ((k : Int) + 2)) (ya xs ((k : Int) + 3)) (ya xs ((k : Int) + 4))))), (0, .ref b), (1, .ref x0), (2, .ref bm), (3, .ref o), (4, .int (zI (k : Int)))]) hx hb dL_law_261 hl (by decide) rfl (fun ls hl => ?_)
  refine lv_aload_n hx hb dL_law_263 rfl (lv_at hl 3 rfl) ?_
  refine lv_aload_n hx hb dL_law_264 rfl (lv_at hl 1 rfl) ?_
  refine lv_iload hx hb dL_law_265 (lv_at hl 5 rfl) ?_
  refine z_iconst hx hb dL_law_267 ?_
  refine z_iadd hx hb dL_law_268 ?_
  refine z_sc hx hb hX hbl hL hs1 hk31 (by omega) dL_law_269 ?_
  refine lv_aload_n hx hb dL_law_270 rfl (lv_at hl 1 rfl) ?_
  refine lv_iload hx hb dL_law_271 (lv_at hl 5 rfl) ?_
  refine z_iconst hx hb dL_law_273 ?_
  refine z_iadd hx hb dL_law_274 ?_
  refine z_sc hx hb hX hbl hL hs1 hk31 (by omega) dL_law_275 ?_
  refine lv_aload_n hx hb dL_law_276 rfl (lv_at hl 1 rfl) ?_
  refine lv_iload hx hb dL_law_277 (lv_at hl 5 rfl) ?_
  refine z_iconst hx hb dL_law_279 ?_
  refine z_iadd hx hb dL_law_280 ?_
  refine z_sc hx hb hX hbl hL hs1 hk31 (by omega) dL_law_281 ?_
  refine lv_aload_n hx hb dL_law_282 rfl (lv_at hl 1 rfl) ?_
  refine lv_iload hx hb dL_law_283 (lv_at hl 5 rfl) ?_
  refine z_iconst hx hb dL_law_285 ?_
  refine z_iadd hx hb dL_law_286 ?_
  refine z_sc hx hb hX hbl hL hs1 hk31 (by omega) dL_law_287 ?_
  refine z_wmL (As := [.int (zI (ya xs ((k : Int) + 1))), .int (zI (ya xs ((k : Int) + 2))), .int (zI (ya xs ((k : Int) + 3))), .int (zI (ya xs ((k : Int) + 4)))]) (rest := []) ⟨hx, hb, hml, hown, hts⟩ (c_X5_ship l D cI cO cL bm ma hM σ H1 hRM1 (ya xs ((k : Int) + 1)) (ya xs ((k : Int) + 2)) (ya xs ((k : Int) + 3)) (ya xs ((k : Int) + 4)) hZ.1 (ya_r xs _) (ya_r xs _) (ya_r xs _) (ya_r xs _)) (cwV 4 hts gL_law_X5_ship rfl rfl rfl (by decide +kernel) ⟨(Nat.le_of_ble_eq_true rfl), (Nat.le_of_ble_eq_true rfl)⟩) hK (m_recv hK hRM1) rfl hl.1 rfl (Nat.le_of_ble_eq_true rfl) dL_law_288 ⟨by show 20 + 2 * k + 7 ≤ 601024; omega, by show 400 + 24 * k + 96 ≤ 7293033; omega⟩ (fun rv σ' H2 L2 hp2 hRM2 hz2 hk2 hL2 => ?_)
  refine va_forget (fun q hq => by
    rcases List.mem_append.mp hq with z | z
    · cases z
    · exact (hAM _ (hL2 q z)).1) ?_
  have ht : 0 ≤ zth_ship σ (ya xs ((k : Int) + 1)) (ya xs ((k : Int) + 2)) (ya xs ((k : Int) + 3)) (ya xs ((k : Int) + 4)) ∧ zth_ship σ (ya xs ((k : Int) + 1)) (ya xs ((k : Int) + 2)) (ya xs ((k : Int) + 3)) (ya xs ((k : Int) + 4)) ≤ 3 := by unfold zth_ship; (repeat' split) <;> omega
  obtain ⟨z2, e2, e3, e4, e5, e6⟩ := zPost_x hp2 (show zst_ship (zup σ 0 0 0) (ya xs ((k : Int) + 1)) (ya xs ((k : Int) + 2)) (ya xs ((k : Int) + 3)) (ya xs ((k : Int) + 4)) 0 0 = 0 from by simp [zst_ship, zup])
  rw [e2]
  refine lv_istore (lv' := [(6, .int (zI z2)), (5, .int (zI (zth_ship (zup σ 0 0 0) (ya xs ((k : Int) + 1)) (ya xs ((k : Int) + 2)) (ya xs ((k : Int) + 3)) (ya xs ((k : Int) + 4))))), (0, .ref b), (1, .ref x0), (2, .ref bm), (3, .ref o), (4, .int (zI (k : Int)))]) hx hb dL_law_291 hl (by decide) rfl (fun ls hl => ?_)
  refine lv_aload_n hx hb dL_law_293 rfl (lv_at hl 4 rfl) ?_
  refine z_cv (As := []) (rest := []) ⟨hx, hb, hml, hown, hts⟩ (c_X5_thrown l D cI cO cL bm ma σ' H2 hRM2) (cwV 0 hts gL_law_X5_thrown rfl rfl rfl (by decide +kernel) ⟨(Nat.le_of_ble_eq_true rfl), (Nat.le_of_ble_eq_true rfl)⟩) (zKK_mv D cI cO cL) (fun U _ hv => va_K.moved hv hK) (m_recv hK hRM2) rfl hl.1 rfl (Nat.le_of_ble_eq_true rfl) dL_law_294 ⟨by show 20 + 2 * k + 7 ≤ 601024; omega, by show 400 + 24 * k + 96 ≤ 7293033; omega⟩ (fun r3 hr3 => ?_)
  rw [hr3, e4]
  refine lv_iload hx hb dL_law_297 (lv_at hl 1 rfl) ?_
  refine z_top (b := zth_ship σ (ya xs ((k : Int) + 1)) (ya xs ((k : Int) + 2)) (ya xs ((k : Int) + 3)) (ya xs ((k : Int) + 4))) rfl ?_
  refine z_icmp_eq (tgt := 304) hx hb dL_law_299 (by decide) (by omega) (fun _ => ?_) (fun c1 => absurd rfl c1)
  have hZ2 : zAll σ' := by
    by_cases z : zth_ship σ (ya xs ((k : Int) + 1)) (ya xs ((k : Int) + 2)) (ya xs ((k : Int) + 3)) (ya xs ((k : Int) + 4)) = 0
    · rw [e5 z]; exact zAll_ship (zAll_th hZ 0) z
    · rw [e6 z]; exact zAll_th hZ _
  refine lv_iload hx hb dL_law_304 (lv_at hl 1 rfl) ?_
  refine z_top (b := zth_ship σ (ya xs ((k : Int) + 1)) (ya xs ((k : Int) + 2)) (ya xs ((k : Int) + 3)) (ya xs ((k : Int) + 4))) rfl ?_
  refine z_if_ne (tgt := 321) hx hb dL_law_306 (by decide) (by omega) (fun c1 => ?_) (fun c1 => ?_)
  · refine lv_goto (tgt := 1285) hx hb dL_law_321 (by decide) ?_
    exact W.widen (k := 20 + 2 * (k + 5)) (n := 400 + 24 * (k + 5)) (by show 20 + 2 * k + 7 ≤ _; omega) (by show 400 + 24 * k + 96 ≤ _; omega) (next σ' H2 ls ⟨⟨g1, hg1.trans hg, zFin (th := zth_ship σ (ya xs ((k : Int) + 1)) (ya xs ((k : Int) + 2)) (ya xs ((k : Int) + 3)) (ya xs ((k : Int) + 4))) ((hR1.kept (fun q h1 h2 => hk2 q h1 (hA1 q h2).2.1))) e5 e6⟩, hRM2, hZ2, ⟨f1, hO1.kept (hk2 o (z_lt hO1) hAMo)⟩, by omega, fun q hq => (hk2 q (by omega) (fun z => by have := (hAM q z).1; omega)).trans (hk31 q hq)⟩ (lv_sub hl [2, 3, 4, 5, 6] rfl))
  refine lv_aload_n hx hb dL_law_309 rfl (lv_at hl 5 rfl) ?_
  refine z_iconst hx hb dL_law_310 ?_
  refine va_lald (ws := [(o, zOut cL f1)]) hx hb hK (z_P1 (hO1.kept (hk2 o (z_lt hO1) hAMo))) 0 2 rfl rfl (zI_in (n := 1) (by decide)) dL_law_311 ?_
  refine lv_iload hx hb dL_law_312 (lv_at hl 0 rfl) ?_
  refine lv_i2l hx hb dL_law_314 rfl ?_
  refine W.lcmp hx hb dL_law_315 ?_
  refine z_tov (w := .int (zI 0)) (by rw [show f1 (zI 0).toNatClampNeg = (zI z2).toInt64 by rw [show (zI 0).toNatClampNeg = 0 by decide, e3 c1]; exact hf1 c1, z_cmp_eq]) ?_
  refine z_if_eq (tgt := 321) hx hb dL_law_316 (by decide) (by decide) (fun _ => ?_) (fun c2 => absurd rfl c2)
  refine lv_goto (tgt := 1285) hx hb dL_law_321 (by decide) ?_
  exact W.widen (k := 20 + 2 * (k + 5)) (n := 400 + 24 * (k + 5)) (by show 20 + 2 * k + 7 ≤ _; omega) (by show 400 + 24 * k + 96 ≤ _; omega) (next σ' H2 ls ⟨⟨g1, hg1.trans hg, zFin (th := zth_ship σ (ya xs ((k : Int) + 1)) (ya xs ((k : Int) + 2)) (ya xs ((k : Int) + 3)) (ya xs ((k : Int) + 4))) ((hR1.kept (fun q h1 h2 => hk2 q h1 (hA1 q h2).2.1))) e5 e6⟩, hRM2, hZ2, ⟨f1, hO1.kept (hk2 o (z_lt hO1) hAMo)⟩, by omega, fun q hq => (hk2 q (by omega) (fun z => by have := (hAM q z).1; omega)).trans (hk31 q hq)⟩ (lv_sub hl [2, 3, 4, 5, 6] rfl))

set_option maxRecDepth 100000 in
set_option maxHeartbeats 4000000 in
theorem law_pilot {p : Program} {e : Env} {s : State} {m : MethodId} {below : List Frame} {meth : Method} {c : Code} (l : Launch) {b L : Nat} {xs : Nat → Int32} {D : va_G} {cI cO cL : ClassId} {A : Nat → Prop} {eE mi : Nat} {sa : Nat → Nat} {x0 bm : Nat} {ma : Nat → Nat} {o h3 : Nat} {Q : State → Prop} (C0 : LC l p s m c b L xs D cI cO cL A eE mi sa bm ma o h3) (k : Nat) (hk : k + 5 ≤ L) {σ : zT} {H : Heap} {ls : Array Slot} (Z : LZ s D cI cO cL A eE x0 bm ma o h3 σ H) (hl : lv_has ls 7 [(0, .ref b), (1, .ref x0), (2, .ref bm), (3, .ref o), (4, .int (zI (k : Int)))]) (next : ∀ (σ : zT) (H : Heap) (ls : Array Slot), LZ s D cI cO cL A eE x0 bm ma o h3 σ H → lv_has ls 7 [(0, .ref b), (1, .ref x0), (2, .ref bm), (3, .ref o), (4, .int (zI (k : Int)))] → W p l e room_1 s m #[Value.ref b] below meth c H [] (20 + 2 * (k + 5)) (400 + 24 * (k + 5)) Q (F0 m 1285 ls [])) : W p l e room_1 s m #[Value.ref b] below meth c H [] (20 + 2 * k) (400 + 24 * k) Q (F0 m 324 ls []) := by
  obtain ⟨⟨hx, hb, hml, hown, hts⟩, ⟨hX, hbl, hL⟩, hK, hM, hfl, hpre, hA1, hAMo, hoo, hAM, hs3⟩ := C0
  obtain ⟨⟨g, hg, hR⟩, hRM, hZ, ⟨f0, hO⟩, hz3, hk3⟩ := Z
  have hs : s.heap.size ≤ H.size := by omega
  refine lv_aload_n hx hb dL_law_324 rfl (lv_at hl 1 rfl) ?_
  refine lv_aload_n hx hb dL_law_325 rfl (lv_at hl 0 rfl) ?_
  refine lv_iload hx hb dL_law_326 (lv_at hl 4 rfl) ?_
  refine z_iconst hx hb dL_law_328 ?_
  refine z_iadd hx hb dL_law_329 ?_
  refine z_sc hx hb hX hbl hL hs hk3 (by omega) dL_law_330 ?_
  refine lv_aload_n hx hb dL_law_331 rfl (lv_at hl 0 rfl) ?_
  refine lv_iload hx hb dL_law_332 (lv_at hl 4 rfl) ?_
  refine z_iconst hx hb dL_law_334 ?_
  refine z_iadd hx hb dL_law_335 ?_
  refine z_sc hx hb hX hbl hL hs hk3 (by omega) dL_law_336 ?_
  refine lv_aload_n hx hb dL_law_337 rfl (lv_at hl 3 rfl) ?_
  have hR0 : RX D cO A eE g (zup σ 0 0 0) H := hR.eq0 (fun k j hk => zup_t (fun q => hk (by rw [q]; rfl)))
  refine z_lS (As := [.ref x0, .int (zI (ya xs ((k : Int) + 1))), .int (zI (ya xs ((k : Int) + 2))), .ref o]) (rest := []) (P := zLP D cO cL A eE o g (zup σ 0 0 0) (zth_pilot (zup σ 0 0 0) (ya xs ((k : Int) + 1)) (ya xs ((k : Int) + 2))) (zst_pilot (zup σ 0 0 0) (ya xs ((k : Int) + 1)) (ya xs ((k : Int) + 2))) (fun f => zth_pilot (zup σ 0 0 0) (ya xs ((k : Int) + 1)) (ya xs ((k : Int) + 2)) = 0 → f 0 = (zI (zan_pilot (zup σ 0 0 0))).toInt64)) ⟨hx, hb, hml, hown, hts⟩ (show zLM l yL_pilot wsL_pilot ({ frames := 8, cells := 5, slots := 83, locals := 244 }) D cI cO cL A eE mi sa o [.ref x0, .int (zI (ya xs ((k : Int) + 1))), .int (zI (ya xs ((k : Int) + 2))), .ref o] H _ by rw [← hg]; exact c_L_pilot l hfl D cI cO cL A eE mi sa o g (zup σ 0 0 0) H f0 hR0 (zAll_th hZ 0) hO (fun z => (hA1 o z).1 rfl) (ya xs ((k : Int) + 1)) (ya xs ((k : Int) + 2)) (⟨ya_r xs _, ya_r xs _⟩)) (vx_cwSW 4 hts gL_law_L_pilot rfl rfl rfl (by decide +kernel) ⟨(Nat.le_of_ble_eq_true rfl), (Nat.le_of_ble_eq_true rfl)⟩) (fun U hU hW => hpre U hW (by rw [hU]; exact hz3) (by rw [hU]; exact hk3)) rfl hl.1 rfl (Nat.le_of_ble_eq_true rfl) dL_law_338 ⟨by show 20 + 2 * k + 5 ≤ 601024; omega, by show 400 + 24 * k + 83 ≤ 7293033; omega⟩ (fun r1 H1 L1 hp1 hz1 hk1 hL1 => ?_)
  obtain ⟨e1, ⟨g1, hg1, hR1⟩, f1, hO1, hf1⟩ := hp1
  rw [e1]
  refine va_forget (fun q hq => by
    rcases List.mem_append.mp hq with z | z
    · cases z
    · rcases hL1 q z with w | w
      · exact (hA1 _ w).2.2
      · rw [w]; exact hoo.1) ?_
  have hs1 : s.heap.size ≤ H1.size := by omega
  have hk31 : ∀ q : Nat, q < s.heap.size → H1[q]? = s.heap[q]? := fun q hq => (hk1 q (by omega) (fun z => by
    rcases z with z | z
    · have := (hA1 q z).2.2; omega
    · omega)).trans (hk3 q hq)
  have hRM1 : RM D cI bm ma σ H1 := hRM.kept (fun q hq => hk1 q (by have := (hAM q hq).2; omega) (fun z => by
    rcases z with z | z
    · exact (hA1 q z).2.1 hq
    · rw [z] at hq; exact hAMo hq))
  refine lv_istore (lv' := [(5, .int (zI (zth_pilot (zup σ 0 0 0) (ya xs ((k : Int) + 1)) (ya xs ((k : Int) + 2))))), (0, .ref b), (1, .ref x0), (2, .ref bm), (3, .ref o), (4, .int (zI (k : Int)))]) hx hb dL_law_341 hl (by decide) rfl (fun ls hl => ?_)
  refine lv_aload_n hx hb dL_law_343 rfl (lv_at hl 3 rfl) ?_
  refine lv_aload_n hx hb dL_law_344 rfl (lv_at hl 1 rfl) ?_
  refine lv_iload hx hb dL_law_345 (lv_at hl 5 rfl) ?_
  refine z_iconst hx hb dL_law_347 ?_
  refine z_iadd hx hb dL_law_348 ?_
  refine z_sc hx hb hX hbl hL hs1 hk31 (by omega) dL_law_349 ?_
  refine lv_aload_n hx hb dL_law_350 rfl (lv_at hl 1 rfl) ?_
  refine lv_iload hx hb dL_law_351 (lv_at hl 5 rfl) ?_
  refine z_iconst hx hb dL_law_353 ?_
  refine z_iadd hx hb dL_law_354 ?_
  refine z_sc hx hb hX hbl hL hs1 hk31 (by omega) dL_law_355 ?_
  refine z_wmL (As := [.int (zI (ya xs ((k : Int) + 1))), .int (zI (ya xs ((k : Int) + 2)))]) (rest := []) ⟨hx, hb, hml, hown, hts⟩ (c_X5_pilot l D cI cO cL bm ma hM σ H1 hRM1 (ya xs ((k : Int) + 1)) (ya xs ((k : Int) + 2)) hZ.1 (ya_r xs _) (ya_r xs _)) (cwV 2 hts gL_law_X5_pilot rfl rfl rfl (by decide +kernel) ⟨(Nat.le_of_ble_eq_true rfl), (Nat.le_of_ble_eq_true rfl)⟩) hK (m_recv hK hRM1) rfl hl.1 rfl (Nat.le_of_ble_eq_true rfl) dL_law_356 ⟨by show 20 + 2 * k + 5 ≤ 601024; omega, by show 400 + 24 * k + 83 ≤ 7293033; omega⟩ (fun rv σ' H2 L2 hp2 hRM2 hz2 hk2 hL2 => ?_)
  refine va_forget (fun q hq => by
    rcases List.mem_append.mp hq with z | z
    · cases z
    · exact (hAM _ (hL2 q z)).1) ?_
  have ht : 0 ≤ zth_pilot σ (ya xs ((k : Int) + 1)) (ya xs ((k : Int) + 2)) ∧ zth_pilot σ (ya xs ((k : Int) + 1)) (ya xs ((k : Int) + 2)) ≤ 3 := by unfold zth_pilot; (repeat' split) <;> omega
  obtain ⟨z2, e2, e3, e4, e5, e6⟩ := zPost_x hp2 (show zst_pilot (zup σ 0 0 0) (ya xs ((k : Int) + 1)) (ya xs ((k : Int) + 2)) 0 0 = 0 from by simp [zst_pilot, zup])
  rw [e2]
  refine lv_istore (lv' := [(6, .int (zI z2)), (5, .int (zI (zth_pilot (zup σ 0 0 0) (ya xs ((k : Int) + 1)) (ya xs ((k : Int) + 2))))), (0, .ref b), (1, .ref x0), (2, .ref bm), (3, .ref o), (4, .int (zI (k : Int)))]) hx hb dL_law_359 hl (by decide) rfl (fun ls hl => ?_)
  refine lv_aload_n hx hb dL_law_361 rfl (lv_at hl 4 rfl) ?_
  refine z_cv (As := []) (rest := []) ⟨hx, hb, hml, hown, hts⟩ (c_X5_thrown l D cI cO cL bm ma σ' H2 hRM2) (cwV 0 hts gL_law_X5_thrown rfl rfl rfl (by decide +kernel) ⟨(Nat.le_of_ble_eq_true rfl), (Nat.le_of_ble_eq_true rfl)⟩) (zKK_mv D cI cO cL) (fun U _ hv => va_K.moved hv hK) (m_recv hK hRM2) rfl hl.1 rfl (Nat.le_of_ble_eq_true rfl) dL_law_362 ⟨by show 20 + 2 * k + 5 ≤ 601024; omega, by show 400 + 24 * k + 83 ≤ 7293033; omega⟩ (fun r3 hr3 => ?_)
  rw [hr3, e4]
  refine lv_iload hx hb dL_law_365 (lv_at hl 1 rfl) ?_
  refine z_top (b := zth_pilot σ (ya xs ((k : Int) + 1)) (ya xs ((k : Int) + 2))) rfl ?_
  refine z_icmp_eq (tgt := 372) hx hb dL_law_367 (by decide) (by omega) (fun _ => ?_) (fun c1 => absurd rfl c1)
  have hZ2 : zAll σ' := by
    by_cases z : zth_pilot σ (ya xs ((k : Int) + 1)) (ya xs ((k : Int) + 2)) = 0
    · rw [e5 z]; exact zAll_pilot (zAll_th hZ 0) z
    · rw [e6 z]; exact zAll_th hZ _
  refine lv_iload hx hb dL_law_372 (lv_at hl 1 rfl) ?_
  refine z_top (b := zth_pilot σ (ya xs ((k : Int) + 1)) (ya xs ((k : Int) + 2))) rfl ?_
  refine z_if_ne (tgt := 389) hx hb dL_law_374 (by decide) (by omega) (fun c1 => ?_) (fun c1 => ?_)
  · refine lv_goto (tgt := 1285) hx hb dL_law_389 (by decide) ?_
    exact W.widen (k := 20 + 2 * (k + 5)) (n := 400 + 24 * (k + 5)) (by show 20 + 2 * k + 5 ≤ _; omega) (by show 400 + 24 * k + 83 ≤ _; omega) (next σ' H2 ls ⟨⟨g1, hg1.trans hg, zFin (th := zth_pilot σ (ya xs ((k : Int) + 1)) (ya xs ((k : Int) + 2))) ((hR1.kept (fun q h1 h2 => hk2 q h1 (hA1 q h2).2.1))) e5 e6⟩, hRM2, hZ2, ⟨f1, hO1.kept (hk2 o (z_lt hO1) hAMo)⟩, by omega, fun q hq => (hk2 q (by omega) (fun z => by have := (hAM q z).1; omega)).trans (hk31 q hq)⟩ (lv_sub hl [2, 3, 4, 5, 6] rfl))
  refine lv_aload_n hx hb dL_law_377 rfl (lv_at hl 5 rfl) ?_
  refine z_iconst hx hb dL_law_378 ?_
  refine va_lald (ws := [(o, zOut cL f1)]) hx hb hK (z_P1 (hO1.kept (hk2 o (z_lt hO1) hAMo))) 0 2 rfl rfl (zI_in (n := 1) (by decide)) dL_law_379 ?_
  refine lv_iload hx hb dL_law_380 (lv_at hl 0 rfl) ?_
  refine lv_i2l hx hb dL_law_382 rfl ?_
  refine W.lcmp hx hb dL_law_383 ?_
  refine z_tov (w := .int (zI 0)) (by rw [show f1 (zI 0).toNatClampNeg = (zI z2).toInt64 by rw [show (zI 0).toNatClampNeg = 0 by decide, e3 c1]; exact hf1 c1, z_cmp_eq]) ?_
  refine z_if_eq (tgt := 389) hx hb dL_law_384 (by decide) (by decide) (fun _ => ?_) (fun c2 => absurd rfl c2)
  refine lv_goto (tgt := 1285) hx hb dL_law_389 (by decide) ?_
  exact W.widen (k := 20 + 2 * (k + 5)) (n := 400 + 24 * (k + 5)) (by show 20 + 2 * k + 5 ≤ _; omega) (by show 400 + 24 * k + 83 ≤ _; omega) (next σ' H2 ls ⟨⟨g1, hg1.trans hg, zFin (th := zth_pilot σ (ya xs ((k : Int) + 1)) (ya xs ((k : Int) + 2))) ((hR1.kept (fun q h1 h2 => hk2 q h1 (hA1 q h2).2.1))) e5 e6⟩, hRM2, hZ2, ⟨f1, hO1.kept (hk2 o (z_lt hO1) hAMo)⟩, by omega, fun q hq => (hk2 q (by omega) (fun z => by have := (hAM q z).1; omega)).trans (hk31 q hq)⟩ (lv_sub hl [2, 3, 4, 5, 6] rfl))

set_option maxRecDepth 100000 in
set_option maxHeartbeats 4000000 in
theorem law_call {p : Program} {e : Env} {s : State} {m : MethodId} {below : List Frame} {meth : Method} {c : Code} (l : Launch) {b L : Nat} {xs : Nat → Int32} {D : va_G} {cI cO cL : ClassId} {A : Nat → Prop} {eE mi : Nat} {sa : Nat → Nat} {x0 bm : Nat} {ma : Nat → Nat} {o h3 : Nat} {Q : State → Prop} (C0 : LC l p s m c b L xs D cI cO cL A eE mi sa bm ma o h3) (k : Nat) (hk : k + 5 ≤ L) {σ : zT} {H : Heap} {ls : Array Slot} (Z : LZ s D cI cO cL A eE x0 bm ma o h3 σ H) (hl : lv_has ls 7 [(0, .ref b), (1, .ref x0), (2, .ref bm), (3, .ref o), (4, .int (zI (k : Int)))]) (next : ∀ (σ : zT) (H : Heap) (ls : Array Slot), LZ s D cI cO cL A eE x0 bm ma o h3 σ H → lv_has ls 7 [(0, .ref b), (1, .ref x0), (2, .ref bm), (3, .ref o), (4, .int (zI (k : Int)))] → W p l e room_1 s m #[Value.ref b] below meth c H [] (20 + 2 * (k + 5)) (400 + 24 * (k + 5)) Q (F0 m 1285 ls [])) : W p l e room_1 s m #[Value.ref b] below meth c H [] (20 + 2 * k) (400 + 24 * k) Q (F0 m 392 ls []) := by
  obtain ⟨⟨hx, hb, hml, hown, hts⟩, ⟨hX, hbl, hL⟩, hK, hM, hfl, hpre, hA1, hAMo, hoo, hAM, hs3⟩ := C0
  obtain ⟨⟨g, hg, hR⟩, hRM, hZ, ⟨f0, hO⟩, hz3, hk3⟩ := Z
  have hs : s.heap.size ≤ H.size := by omega
  refine lv_aload_n hx hb dL_law_392 rfl (lv_at hl 1 rfl) ?_
  refine lv_aload_n hx hb dL_law_393 rfl (lv_at hl 0 rfl) ?_
  refine lv_iload hx hb dL_law_394 (lv_at hl 4 rfl) ?_
  refine z_iconst hx hb dL_law_396 ?_
  refine z_iadd hx hb dL_law_397 ?_
  refine z_sc hx hb hX hbl hL hs hk3 (by omega) dL_law_398 ?_
  refine lv_aload_n hx hb dL_law_399 rfl (lv_at hl 0 rfl) ?_
  refine lv_iload hx hb dL_law_400 (lv_at hl 4 rfl) ?_
  refine z_iconst hx hb dL_law_402 ?_
  refine z_iadd hx hb dL_law_403 ?_
  refine z_sc hx hb hX hbl hL hs hk3 (by omega) dL_law_404 ?_
  refine lv_aload_n hx hb dL_law_405 rfl (lv_at hl 3 rfl) ?_
  have hR0 : RX D cO A eE g (zup σ 0 0 0) H := hR.eq0 (fun k j hk => zup_t (fun q => hk (by rw [q]; rfl)))
  refine z_lS (As := [.ref x0, .int (zI (ya xs ((k : Int) + 1))), .int (zI (ya xs ((k : Int) + 2))), .ref o]) (rest := []) (P := zLP D cO cL A eE o g (zup σ 0 0 0) (zth_call (zup σ 0 0 0) (ya xs ((k : Int) + 1)) (ya xs ((k : Int) + 2))) (zst_call (zup σ 0 0 0) (ya xs ((k : Int) + 1)) (ya xs ((k : Int) + 2))) (fun f => zth_call (zup σ 0 0 0) (ya xs ((k : Int) + 1)) (ya xs ((k : Int) + 2)) = 0 → f 0 = (zI (zan_call (zup σ 0 0 0))).toInt64)) ⟨hx, hb, hml, hown, hts⟩ (show zLM l yL_call wsL_call ({ frames := 8, cells := 5, slots := 85, locals := 245 }) D cI cO cL A eE mi sa o [.ref x0, .int (zI (ya xs ((k : Int) + 1))), .int (zI (ya xs ((k : Int) + 2))), .ref o] H _ by rw [← hg]; exact c_L_call l hfl D cI cO cL A eE mi sa o g (zup σ 0 0 0) H f0 hR0 (zAll_th hZ 0) hO (fun z => (hA1 o z).1 rfl) (ya xs ((k : Int) + 1)) (ya xs ((k : Int) + 2)) (⟨ya_r xs _, ya_r xs _⟩)) (vx_cwSW 4 hts gL_law_L_call rfl rfl rfl (by decide +kernel) ⟨(Nat.le_of_ble_eq_true rfl), (Nat.le_of_ble_eq_true rfl)⟩) (fun U hU hW => hpre U hW (by rw [hU]; exact hz3) (by rw [hU]; exact hk3)) rfl hl.1 rfl (Nat.le_of_ble_eq_true rfl) dL_law_406 ⟨by show 20 + 2 * k + 5 ≤ 601024; omega, by show 400 + 24 * k + 85 ≤ 7293033; omega⟩ (fun r1 H1 L1 hp1 hz1 hk1 hL1 => ?_)
  obtain ⟨e1, ⟨g1, hg1, hR1⟩, f1, hO1, hf1⟩ := hp1
  rw [e1]
  refine va_forget (fun q hq => by
    rcases List.mem_append.mp hq with z | z
    · cases z
    · rcases hL1 q z with w | w
      · exact (hA1 _ w).2.2
      · rw [w]; exact hoo.1) ?_
  have hs1 : s.heap.size ≤ H1.size := by omega
  have hk31 : ∀ q : Nat, q < s.heap.size → H1[q]? = s.heap[q]? := fun q hq => (hk1 q (by omega) (fun z => by
    rcases z with z | z
    · have := (hA1 q z).2.2; omega
    · omega)).trans (hk3 q hq)
  have hRM1 : RM D cI bm ma σ H1 := hRM.kept (fun q hq => hk1 q (by have := (hAM q hq).2; omega) (fun z => by
    rcases z with z | z
    · exact (hA1 q z).2.1 hq
    · rw [z] at hq; exact hAMo hq))
  refine lv_istore (lv' := [(5, .int (zI (zth_call (zup σ 0 0 0) (ya xs ((k : Int) + 1)) (ya xs ((k : Int) + 2))))), (0, .ref b), (1, .ref x0), (2, .ref bm), (3, .ref o), (4, .int (zI (k : Int)))]) hx hb dL_law_409 hl (by decide) rfl (fun ls hl => ?_)
  refine lv_aload_n hx hb dL_law_411 rfl (lv_at hl 3 rfl) ?_
  refine lv_aload_n hx hb dL_law_412 rfl (lv_at hl 1 rfl) ?_
  refine lv_iload hx hb dL_law_413 (lv_at hl 5 rfl) ?_
  refine z_iconst hx hb dL_law_415 ?_
  refine z_iadd hx hb dL_law_416 ?_
  refine z_sc hx hb hX hbl hL hs1 hk31 (by omega) dL_law_417 ?_
  refine lv_aload_n hx hb dL_law_418 rfl (lv_at hl 1 rfl) ?_
  refine lv_iload hx hb dL_law_419 (lv_at hl 5 rfl) ?_
  refine z_iconst hx hb dL_law_421 ?_
  refine z_iadd hx hb dL_law_422 ?_
  refine z_sc hx hb hX hbl hL hs1 hk31 (by omega) dL_law_423 ?_
  refine z_wmL (As := [.int (zI (ya xs ((k : Int) + 1))), .int (zI (ya xs ((k : Int) + 2)))]) (rest := []) ⟨hx, hb, hml, hown, hts⟩ (c_X5_call l D cI cO cL bm ma hM σ H1 hRM1 (ya xs ((k : Int) + 1)) (ya xs ((k : Int) + 2)) hZ.1 (ya_r xs _) (ya_r xs _)) (cwV 2 hts gL_law_X5_call rfl rfl rfl (by decide +kernel) ⟨(Nat.le_of_ble_eq_true rfl), (Nat.le_of_ble_eq_true rfl)⟩) hK (m_recv hK hRM1) rfl hl.1 rfl (Nat.le_of_ble_eq_true rfl) dL_law_424 ⟨by show 20 + 2 * k + 5 ≤ 601024; omega, by show 400 + 24 * k + 85 ≤ 7293033; omega⟩ (fun rv σ' H2 L2 hp2 hRM2 hz2 hk2 hL2 => ?_)
  refine va_forget (fun q hq => by
    rcases List.mem_append.mp hq with z | z
    · cases z
    · exact (hAM _ (hL2 q z)).1) ?_
  have ht : 0 ≤ zth_call σ (ya xs ((k : Int) + 1)) (ya xs ((k : Int) + 2)) ∧ zth_call σ (ya xs ((k : Int) + 1)) (ya xs ((k : Int) + 2)) ≤ 3 := by unfold zth_call; (repeat' split) <;> omega
  obtain ⟨z2, e2, e3, e4, e5, e6⟩ := zPost_x hp2 (show zst_call (zup σ 0 0 0) (ya xs ((k : Int) + 1)) (ya xs ((k : Int) + 2)) 0 0 = 0 from by simp [zst_call, zup])
  rw [e2]
  refine lv_istore (lv' := [(6, .int (zI z2)), (5, .int (zI (zth_call (zup σ 0 0 0) (ya xs ((k : Int) + 1)) (ya xs ((k : Int) + 2))))), (0, .ref b), (1, .ref x0), (2, .ref bm), (3, .ref o), (4, .int (zI (k : Int)))]) hx hb dL_law_427 hl (by decide) rfl (fun ls hl => ?_)
  refine lv_aload_n hx hb dL_law_429 rfl (lv_at hl 4 rfl) ?_
  refine z_cv (As := []) (rest := []) ⟨hx, hb, hml, hown, hts⟩ (c_X5_thrown l D cI cO cL bm ma σ' H2 hRM2) (cwV 0 hts gL_law_X5_thrown rfl rfl rfl (by decide +kernel) ⟨(Nat.le_of_ble_eq_true rfl), (Nat.le_of_ble_eq_true rfl)⟩) (zKK_mv D cI cO cL) (fun U _ hv => va_K.moved hv hK) (m_recv hK hRM2) rfl hl.1 rfl (Nat.le_of_ble_eq_true rfl) dL_law_430 ⟨by show 20 + 2 * k + 5 ≤ 601024; omega, by show 400 + 24 * k + 85 ≤ 7293033; omega⟩ (fun r3 hr3 => ?_)
  rw [hr3, e4]
  refine lv_iload hx hb dL_law_433 (lv_at hl 1 rfl) ?_
  refine z_top (b := zth_call σ (ya xs ((k : Int) + 1)) (ya xs ((k : Int) + 2))) rfl ?_
  refine z_icmp_eq (tgt := 440) hx hb dL_law_435 (by decide) (by omega) (fun _ => ?_) (fun c1 => absurd rfl c1)
  have hZ2 : zAll σ' := by
    by_cases z : zth_call σ (ya xs ((k : Int) + 1)) (ya xs ((k : Int) + 2)) = 0
    · rw [e5 z]; exact zAll_call (zAll_th hZ 0) z
    · rw [e6 z]; exact zAll_th hZ _
  refine lv_iload hx hb dL_law_440 (lv_at hl 1 rfl) ?_
  refine z_top (b := zth_call σ (ya xs ((k : Int) + 1)) (ya xs ((k : Int) + 2))) rfl ?_
  refine z_if_ne (tgt := 457) hx hb dL_law_442 (by decide) (by omega) (fun c1 => ?_) (fun c1 => ?_)
  · refine lv_goto (tgt := 1285) hx hb dL_law_457 (by decide) ?_
    exact W.widen (k := 20 + 2 * (k + 5)) (n := 400 + 24 * (k + 5)) (by show 20 + 2 * k + 5 ≤ _; omega) (by show 400 + 24 * k + 85 ≤ _; omega) (next σ' H2 ls ⟨⟨g1, hg1.trans hg, zFin (th := zth_call σ (ya xs ((k : Int) + 1)) (ya xs ((k : Int) + 2))) ((hR1.kept (fun q h1 h2 => hk2 q h1 (hA1 q h2).2.1))) e5 e6⟩, hRM2, hZ2, ⟨f1, hO1.kept (hk2 o (z_lt hO1) hAMo)⟩, by omega, fun q hq => (hk2 q (by omega) (fun z => by have := (hAM q z).1; omega)).trans (hk31 q hq)⟩ (lv_sub hl [2, 3, 4, 5, 6] rfl))
  refine lv_aload_n hx hb dL_law_445 rfl (lv_at hl 5 rfl) ?_
  refine z_iconst hx hb dL_law_446 ?_
  refine va_lald (ws := [(o, zOut cL f1)]) hx hb hK (z_P1 (hO1.kept (hk2 o (z_lt hO1) hAMo))) 0 2 rfl rfl (zI_in (n := 1) (by decide)) dL_law_447 ?_
  refine lv_iload hx hb dL_law_448 (lv_at hl 0 rfl) ?_
  refine lv_i2l hx hb dL_law_450 rfl ?_
  refine W.lcmp hx hb dL_law_451 ?_
  refine z_tov (w := .int (zI 0)) (by rw [show f1 (zI 0).toNatClampNeg = (zI z2).toInt64 by rw [show (zI 0).toNatClampNeg = 0 by decide, e3 c1]; exact hf1 c1, z_cmp_eq]) ?_
  refine z_if_eq (tgt := 457) hx hb dL_law_452 (by decide) (by decide) (fun _ => ?_) (fun c2 => absurd rfl c2)
  refine lv_goto (tgt := 1285) hx hb dL_law_457 (by decide) ?_
  exact W.widen (k := 20 + 2 * (k + 5)) (n := 400 + 24 * (k + 5)) (by show 20 + 2 * k + 5 ≤ _; omega) (by show 400 + 24 * k + 85 ≤ _; omega) (next σ' H2 ls ⟨⟨g1, hg1.trans hg, zFin (th := zth_call σ (ya xs ((k : Int) + 1)) (ya xs ((k : Int) + 2))) ((hR1.kept (fun q h1 h2 => hk2 q h1 (hA1 q h2).2.1))) e5 e6⟩, hRM2, hZ2, ⟨f1, hO1.kept (hk2 o (z_lt hO1) hAMo)⟩, by omega, fun q hq => (hk2 q (by omega) (fun z => by have := (hAM q z).1; omega)).trans (hk31 q hq)⟩ (lv_sub hl [2, 3, 4, 5, 6] rfl))

set_option maxRecDepth 100000 in
set_option maxHeartbeats 4000000 in
theorem law_join {p : Program} {e : Env} {s : State} {m : MethodId} {below : List Frame} {meth : Method} {c : Code} (l : Launch) {b L : Nat} {xs : Nat → Int32} {D : va_G} {cI cO cL : ClassId} {A : Nat → Prop} {eE mi : Nat} {sa : Nat → Nat} {x0 bm : Nat} {ma : Nat → Nat} {o h3 : Nat} {Q : State → Prop} (C0 : LC l p s m c b L xs D cI cO cL A eE mi sa bm ma o h3) (k : Nat) (hk : k + 5 ≤ L) {σ : zT} {H : Heap} {ls : Array Slot} (Z : LZ s D cI cO cL A eE x0 bm ma o h3 σ H) (hl : lv_has ls 7 [(0, .ref b), (1, .ref x0), (2, .ref bm), (3, .ref o), (4, .int (zI (k : Int)))]) (next : ∀ (σ : zT) (H : Heap) (ls : Array Slot), LZ s D cI cO cL A eE x0 bm ma o h3 σ H → lv_has ls 7 [(0, .ref b), (1, .ref x0), (2, .ref bm), (3, .ref o), (4, .int (zI (k : Int)))] → W p l e room_1 s m #[Value.ref b] below meth c H [] (20 + 2 * (k + 5)) (400 + 24 * (k + 5)) Q (F0 m 1285 ls [])) : W p l e room_1 s m #[Value.ref b] below meth c H [] (20 + 2 * k) (400 + 24 * k) Q (F0 m 460 ls []) := by
  obtain ⟨⟨hx, hb, hml, hown, hts⟩, ⟨hX, hbl, hL⟩, hK, hM, hfl, hpre, hA1, hAMo, hoo, hAM, hs3⟩ := C0
  obtain ⟨⟨g, hg, hR⟩, hRM, hZ, ⟨f0, hO⟩, hz3, hk3⟩ := Z
  have hs : s.heap.size ≤ H.size := by omega
  refine lv_aload_n hx hb dL_law_460 rfl (lv_at hl 1 rfl) ?_
  refine lv_aload_n hx hb dL_law_461 rfl (lv_at hl 0 rfl) ?_
  refine lv_iload hx hb dL_law_462 (lv_at hl 4 rfl) ?_
  refine z_iconst hx hb dL_law_464 ?_
  refine z_iadd hx hb dL_law_465 ?_
  refine z_sc hx hb hX hbl hL hs hk3 (by omega) dL_law_466 ?_
  refine lv_aload_n hx hb dL_law_467 rfl (lv_at hl 0 rfl) ?_
  refine lv_iload hx hb dL_law_468 (lv_at hl 4 rfl) ?_
  refine z_iconst hx hb dL_law_470 ?_
  refine z_iadd hx hb dL_law_471 ?_
  refine z_sc hx hb hX hbl hL hs hk3 (by omega) dL_law_472 ?_
  refine lv_aload_n hx hb dL_law_473 rfl (lv_at hl 0 rfl) ?_
  refine lv_iload hx hb dL_law_474 (lv_at hl 4 rfl) ?_
  refine z_iconst hx hb dL_law_476 ?_
  refine z_iadd hx hb dL_law_477 ?_
  refine z_sc hx hb hX hbl hL hs hk3 (by omega) dL_law_478 ?_
  refine lv_aload_n hx hb dL_law_479 rfl (lv_at hl 3 rfl) ?_
  have hR0 : RX D cO A eE g (zup σ 0 0 0) H := hR.eq0 (fun k j hk => zup_t (fun q => hk (by rw [q]; rfl)))
  refine z_lS (As := [.ref x0, .int (zI (ya xs ((k : Int) + 1))), .int (zI (ya xs ((k : Int) + 2))), .int (zI (ya xs ((k : Int) + 3))), .ref o]) (rest := []) (P := zLP D cO cL A eE o g (zup σ 0 0 0) (zth_join (zup σ 0 0 0) (ya xs ((k : Int) + 1)) (ya xs ((k : Int) + 2)) (ya xs ((k : Int) + 3))) (zst_join (zup σ 0 0 0) (ya xs ((k : Int) + 1)) (ya xs ((k : Int) + 2)) (ya xs ((k : Int) + 3))) (fun f => zth_join (zup σ 0 0 0) (ya xs ((k : Int) + 1)) (ya xs ((k : Int) + 2)) (ya xs ((k : Int) + 3)) = 0 → f 0 = (zI (zan_join (zup σ 0 0 0) (ya xs ((k : Int) + 1)) (ya xs ((k : Int) + 2)) (ya xs ((k : Int) + 3)))).toInt64)) ⟨hx, hb, hml, hown, hts⟩ (show zLM l yL_join wsL_join ({ frames := 8, cells := 4, slots := 24, locals := 186 }) D cI cO cL A eE mi sa o [.ref x0, .int (zI (ya xs ((k : Int) + 1))), .int (zI (ya xs ((k : Int) + 2))), .int (zI (ya xs ((k : Int) + 3))), .ref o] H _ by rw [← hg]; exact c_L_join l hfl D cI cO cL A eE mi sa o g (zup σ 0 0 0) H f0 hR0 (zAll_th hZ 0) hO (fun z => (hA1 o z).1 rfl) (ya xs ((k : Int) + 1)) (ya xs ((k : Int) + 2)) (ya xs ((k : Int) + 3)) (⟨ya_r xs _, ya_r xs _, ya_r xs _⟩)) (vx_cwSW 5 hts gL_law_L_join rfl rfl rfl (by decide +kernel) ⟨(Nat.le_of_ble_eq_true rfl), (Nat.le_of_ble_eq_true rfl)⟩) (fun U hU hW => hpre U hW (by rw [hU]; exact hz3) (by rw [hU]; exact hk3)) rfl hl.1 rfl (Nat.le_of_ble_eq_true rfl) dL_law_480 ⟨by show 20 + 2 * k + 4 ≤ 601024; omega, by show 400 + 24 * k + 24 ≤ 7293033; omega⟩ (fun r1 H1 L1 hp1 hz1 hk1 hL1 => ?_)
  obtain ⟨e1, ⟨g1, hg1, hR1⟩, f1, hO1, hf1⟩ := hp1
  rw [e1]
  refine va_forget (fun q hq => by
    rcases List.mem_append.mp hq with z | z
    · cases z
    · rcases hL1 q z with w | w
      · exact (hA1 _ w).2.2
      · rw [w]; exact hoo.1) ?_
  have hs1 : s.heap.size ≤ H1.size := by omega
  have hk31 : ∀ q : Nat, q < s.heap.size → H1[q]? = s.heap[q]? := fun q hq => (hk1 q (by omega) (fun z => by
    rcases z with z | z
    · have := (hA1 q z).2.2; omega
    · omega)).trans (hk3 q hq)
  have hRM1 : RM D cI bm ma σ H1 := hRM.kept (fun q hq => hk1 q (by have := (hAM q hq).2; omega) (fun z => by
    rcases z with z | z
    · exact (hA1 q z).2.1 hq
    · rw [z] at hq; exact hAMo hq))
  refine lv_istore (lv' := [(5, .int (zI (zth_join (zup σ 0 0 0) (ya xs ((k : Int) + 1)) (ya xs ((k : Int) + 2)) (ya xs ((k : Int) + 3))))), (0, .ref b), (1, .ref x0), (2, .ref bm), (3, .ref o), (4, .int (zI (k : Int)))]) hx hb dL_law_483 hl (by decide) rfl (fun ls hl => ?_)
  refine lv_aload_n hx hb dL_law_485 rfl (lv_at hl 3 rfl) ?_
  refine lv_aload_n hx hb dL_law_486 rfl (lv_at hl 1 rfl) ?_
  refine lv_iload hx hb dL_law_487 (lv_at hl 5 rfl) ?_
  refine z_iconst hx hb dL_law_489 ?_
  refine z_iadd hx hb dL_law_490 ?_
  refine z_sc hx hb hX hbl hL hs1 hk31 (by omega) dL_law_491 ?_
  refine lv_aload_n hx hb dL_law_492 rfl (lv_at hl 1 rfl) ?_
  refine lv_iload hx hb dL_law_493 (lv_at hl 5 rfl) ?_
  refine z_iconst hx hb dL_law_495 ?_
  refine z_iadd hx hb dL_law_496 ?_
  refine z_sc hx hb hX hbl hL hs1 hk31 (by omega) dL_law_497 ?_
  refine lv_aload_n hx hb dL_law_498 rfl (lv_at hl 1 rfl) ?_
  refine lv_iload hx hb dL_law_499 (lv_at hl 5 rfl) ?_
  refine z_iconst hx hb dL_law_501 ?_
  refine z_iadd hx hb dL_law_502 ?_
  refine z_sc hx hb hX hbl hL hs1 hk31 (by omega) dL_law_503 ?_
  refine z_wmL (As := [.int (zI (ya xs ((k : Int) + 1))), .int (zI (ya xs ((k : Int) + 2))), .int (zI (ya xs ((k : Int) + 3)))]) (rest := []) ⟨hx, hb, hml, hown, hts⟩ (c_X5_join l D cI cO cL bm ma hM σ H1 hRM1 (ya xs ((k : Int) + 1)) (ya xs ((k : Int) + 2)) (ya xs ((k : Int) + 3)) hZ.1 (ya_r xs _) (ya_r xs _) (ya_r xs _)) (cwV 3 hts gL_law_X5_join rfl rfl rfl (by decide +kernel) ⟨(Nat.le_of_ble_eq_true rfl), (Nat.le_of_ble_eq_true rfl)⟩) hK (m_recv hK hRM1) rfl hl.1 rfl (Nat.le_of_ble_eq_true rfl) dL_law_504 ⟨by show 20 + 2 * k + 4 ≤ 601024; omega, by show 400 + 24 * k + 24 ≤ 7293033; omega⟩ (fun rv σ' H2 L2 hp2 hRM2 hz2 hk2 hL2 => ?_)
  refine va_forget (fun q hq => by
    rcases List.mem_append.mp hq with z | z
    · cases z
    · exact (hAM _ (hL2 q z)).1) ?_
  have ht : 0 ≤ zth_join σ (ya xs ((k : Int) + 1)) (ya xs ((k : Int) + 2)) (ya xs ((k : Int) + 3)) ∧ zth_join σ (ya xs ((k : Int) + 1)) (ya xs ((k : Int) + 2)) (ya xs ((k : Int) + 3)) ≤ 3 := by unfold zth_join; (repeat' split) <;> omega
  obtain ⟨z2, e2, e3, e4, e5, e6⟩ := zPost_x hp2 (show zst_join (zup σ 0 0 0) (ya xs ((k : Int) + 1)) (ya xs ((k : Int) + 2)) (ya xs ((k : Int) + 3)) 0 0 = 0 from by rw [z00_join, zup_s])
  rw [e2]
  refine lv_istore (lv' := [(6, .int (zI z2)), (5, .int (zI (zth_join (zup σ 0 0 0) (ya xs ((k : Int) + 1)) (ya xs ((k : Int) + 2)) (ya xs ((k : Int) + 3))))), (0, .ref b), (1, .ref x0), (2, .ref bm), (3, .ref o), (4, .int (zI (k : Int)))]) hx hb dL_law_507 hl (by decide) rfl (fun ls hl => ?_)
  refine lv_aload_n hx hb dL_law_509 rfl (lv_at hl 4 rfl) ?_
  refine z_cv (As := []) (rest := []) ⟨hx, hb, hml, hown, hts⟩ (c_X5_thrown l D cI cO cL bm ma σ' H2 hRM2) (cwV 0 hts gL_law_X5_thrown rfl rfl rfl (by decide +kernel) ⟨(Nat.le_of_ble_eq_true rfl), (Nat.le_of_ble_eq_true rfl)⟩) (zKK_mv D cI cO cL) (fun U _ hv => va_K.moved hv hK) (m_recv hK hRM2) rfl hl.1 rfl (Nat.le_of_ble_eq_true rfl) dL_law_510 ⟨by show 20 + 2 * k + 4 ≤ 601024; omega, by show 400 + 24 * k + 24 ≤ 7293033; omega⟩ (fun r3 hr3 => ?_)
  rw [hr3, e4]
  refine lv_iload hx hb dL_law_513 (lv_at hl 1 rfl) ?_
  refine z_top (b := zth_join σ (ya xs ((k : Int) + 1)) (ya xs ((k : Int) + 2)) (ya xs ((k : Int) + 3))) rfl ?_
  refine z_icmp_eq (tgt := 520) hx hb dL_law_515 (by decide) (by omega) (fun _ => ?_) (fun c1 => absurd rfl c1)
  have hZ2 : zAll σ' := by
    by_cases z : zth_join σ (ya xs ((k : Int) + 1)) (ya xs ((k : Int) + 2)) (ya xs ((k : Int) + 3)) = 0
    · rw [e5 z]; exact zAll_join (zAll_th hZ 0) z
    · rw [e6 z]; exact zAll_th hZ _
  refine lv_iload hx hb dL_law_520 (lv_at hl 1 rfl) ?_
  refine z_top (b := zth_join σ (ya xs ((k : Int) + 1)) (ya xs ((k : Int) + 2)) (ya xs ((k : Int) + 3))) rfl ?_
  refine z_if_ne (tgt := 537) hx hb dL_law_522 (by decide) (by omega) (fun c1 => ?_) (fun c1 => ?_)
  · refine lv_goto (tgt := 1285) hx hb dL_law_537 (by decide) ?_
    exact W.widen (k := 20 + 2 * (k + 5)) (n := 400 + 24 * (k + 5)) (by show 20 + 2 * k + 4 ≤ _; omega) (by show 400 + 24 * k + 24 ≤ _; omega) (next σ' H2 ls ⟨⟨g1, hg1.trans hg, zFin (th := zth_join σ (ya xs ((k : Int) + 1)) (ya xs ((k : Int) + 2)) (ya xs ((k : Int) + 3))) ((hR1.kept (fun q h1 h2 => hk2 q h1 (hA1 q h2).2.1))) e5 e6⟩, hRM2, hZ2, ⟨f1, hO1.kept (hk2 o (z_lt hO1) hAMo)⟩, by omega, fun q hq => (hk2 q (by omega) (fun z => by have := (hAM q z).1; omega)).trans (hk31 q hq)⟩ (lv_sub hl [2, 3, 4, 5, 6] rfl))
  refine lv_aload_n hx hb dL_law_525 rfl (lv_at hl 5 rfl) ?_
  refine z_iconst hx hb dL_law_526 ?_
  refine va_lald (ws := [(o, zOut cL f1)]) hx hb hK (z_P1 (hO1.kept (hk2 o (z_lt hO1) hAMo))) 0 2 rfl rfl (zI_in (n := 1) (by decide)) dL_law_527 ?_
  refine lv_iload hx hb dL_law_528 (lv_at hl 0 rfl) ?_
  refine lv_i2l hx hb dL_law_530 rfl ?_
  refine W.lcmp hx hb dL_law_531 ?_
  refine z_tov (w := .int (zI 0)) (by rw [show f1 (zI 0).toNatClampNeg = (zI z2).toInt64 by rw [show (zI 0).toNatClampNeg = 0 by decide, e3 c1]; exact hf1 c1, z_cmp_eq]) ?_
  refine z_if_eq (tgt := 537) hx hb dL_law_532 (by decide) (by decide) (fun _ => ?_) (fun c2 => absurd rfl c2)
  refine lv_goto (tgt := 1285) hx hb dL_law_537 (by decide) ?_
  exact W.widen (k := 20 + 2 * (k + 5)) (n := 400 + 24 * (k + 5)) (by show 20 + 2 * k + 4 ≤ _; omega) (by show 400 + 24 * k + 24 ≤ _; omega) (next σ' H2 ls ⟨⟨g1, hg1.trans hg, zFin (th := zth_join σ (ya xs ((k : Int) + 1)) (ya xs ((k : Int) + 2)) (ya xs ((k : Int) + 3))) ((hR1.kept (fun q h1 h2 => hk2 q h1 (hA1 q h2).2.1))) e5 e6⟩, hRM2, hZ2, ⟨f1, hO1.kept (hk2 o (z_lt hO1) hAMo)⟩, by omega, fun q hq => (hk2 q (by omega) (fun z => by have := (hAM q z).1; omega)).trans (hk31 q hq)⟩ (lv_sub hl [2, 3, 4, 5, 6] rfl))

set_option maxRecDepth 100000 in
set_option maxHeartbeats 4000000 in
theorem law_again {p : Program} {e : Env} {s : State} {m : MethodId} {below : List Frame} {meth : Method} {c : Code} (l : Launch) {b L : Nat} {xs : Nat → Int32} {D : va_G} {cI cO cL : ClassId} {A : Nat → Prop} {eE mi : Nat} {sa : Nat → Nat} {x0 bm : Nat} {ma : Nat → Nat} {o h3 : Nat} {Q : State → Prop} (C0 : LC l p s m c b L xs D cI cO cL A eE mi sa bm ma o h3) (k : Nat) (hk : k + 5 ≤ L) {σ : zT} {H : Heap} {ls : Array Slot} (Z : LZ s D cI cO cL A eE x0 bm ma o h3 σ H) (hl : lv_has ls 7 [(0, .ref b), (1, .ref x0), (2, .ref bm), (3, .ref o), (4, .int (zI (k : Int)))]) (next : ∀ (σ : zT) (H : Heap) (ls : Array Slot), LZ s D cI cO cL A eE x0 bm ma o h3 σ H → lv_has ls 7 [(0, .ref b), (1, .ref x0), (2, .ref bm), (3, .ref o), (4, .int (zI (k : Int)))] → W p l e room_1 s m #[Value.ref b] below meth c H [] (20 + 2 * (k + 5)) (400 + 24 * (k + 5)) Q (F0 m 1285 ls [])) : W p l e room_1 s m #[Value.ref b] below meth c H [] (20 + 2 * k) (400 + 24 * k) Q (F0 m 540 ls []) := by
  obtain ⟨⟨hx, hb, hml, hown, hts⟩, ⟨hX, hbl, hL⟩, hK, hM, hfl, hpre, hA1, hAMo, hoo, hAM, hs3⟩ := C0
  obtain ⟨⟨g, hg, hR⟩, hRM, hZ, ⟨f0, hO⟩, hz3, hk3⟩ := Z
  have hs : s.heap.size ≤ H.size := by omega
  refine lv_aload_n hx hb dL_law_540 rfl (lv_at hl 1 rfl) ?_
  refine lv_aload_n hx hb dL_law_541 rfl (lv_at hl 0 rfl) ?_
  refine lv_iload hx hb dL_law_542 (lv_at hl 4 rfl) ?_
  refine z_iconst hx hb dL_law_544 ?_
  refine z_iadd hx hb dL_law_545 ?_
  refine z_sc hx hb hX hbl hL hs hk3 (by omega) dL_law_546 ?_
  refine lv_aload_n hx hb dL_law_547 rfl (lv_at hl 3 rfl) ?_
  have hR0 : RX D cO A eE g (zup σ 0 0 0) H := hR.eq0 (fun k j hk => zup_t (fun q => hk (by rw [q]; rfl)))
  refine z_lS (As := [.ref x0, .int (zI (ya xs ((k : Int) + 1))), .ref o]) (rest := []) (P := zLP D cO cL A eE o g (zup σ 0 0 0) (zth_again (zup σ 0 0 0) (ya xs ((k : Int) + 1))) (zst_again (zup σ 0 0 0) (ya xs ((k : Int) + 1))) (fun f => zth_again (zup σ 0 0 0) (ya xs ((k : Int) + 1)) = 0 → f 0 = (zI (zan_again (zup σ 0 0 0) (ya xs ((k : Int) + 1)))).toInt64)) ⟨hx, hb, hml, hown, hts⟩ (show zLM l yL_again wsL_again ({ frames := 8, cells := 2, slots := 12, locals := 183 }) D cI cO cL A eE mi sa o [.ref x0, .int (zI (ya xs ((k : Int) + 1))), .ref o] H _ by rw [← hg]; exact c_L_again l hfl D cI cO cL A eE mi sa o g (zup σ 0 0 0) H f0 hR0 (zAll_th hZ 0) hO (fun z => (hA1 o z).1 rfl) (ya xs ((k : Int) + 1)) (ya_r xs _)) (vx_cwSW 3 hts gL_law_L_again rfl rfl rfl (by decide +kernel) ⟨(Nat.le_of_ble_eq_true rfl), (Nat.le_of_ble_eq_true rfl)⟩) (fun U hU hW => hpre U hW (by rw [hU]; exact hz3) (by rw [hU]; exact hk3)) rfl hl.1 rfl (Nat.le_of_ble_eq_true rfl) dL_law_548 ⟨by show 20 + 2 * k + 2 ≤ 601024; omega, by show 400 + 24 * k + 12 ≤ 7293033; omega⟩ (fun r1 H1 L1 hp1 hz1 hk1 hL1 => ?_)
  obtain ⟨e1, ⟨g1, hg1, hR1⟩, f1, hO1, hf1⟩ := hp1
  rw [e1]
  refine va_forget (fun q hq => by
    rcases List.mem_append.mp hq with z | z
    · cases z
    · rcases hL1 q z with w | w
      · exact (hA1 _ w).2.2
      · rw [w]; exact hoo.1) ?_
  have hs1 : s.heap.size ≤ H1.size := by omega
  have hk31 : ∀ q : Nat, q < s.heap.size → H1[q]? = s.heap[q]? := fun q hq => (hk1 q (by omega) (fun z => by
    rcases z with z | z
    · have := (hA1 q z).2.2; omega
    · omega)).trans (hk3 q hq)
  have hRM1 : RM D cI bm ma σ H1 := hRM.kept (fun q hq => hk1 q (by have := (hAM q hq).2; omega) (fun z => by
    rcases z with z | z
    · exact (hA1 q z).2.1 hq
    · rw [z] at hq; exact hAMo hq))
  refine lv_istore (lv' := [(5, .int (zI (zth_again (zup σ 0 0 0) (ya xs ((k : Int) + 1))))), (0, .ref b), (1, .ref x0), (2, .ref bm), (3, .ref o), (4, .int (zI (k : Int)))]) hx hb dL_law_551 hl (by decide) rfl (fun ls hl => ?_)
  refine lv_aload_n hx hb dL_law_553 rfl (lv_at hl 3 rfl) ?_
  refine lv_aload_n hx hb dL_law_554 rfl (lv_at hl 1 rfl) ?_
  refine lv_iload hx hb dL_law_555 (lv_at hl 5 rfl) ?_
  refine z_iconst hx hb dL_law_557 ?_
  refine z_iadd hx hb dL_law_558 ?_
  refine z_sc hx hb hX hbl hL hs1 hk31 (by omega) dL_law_559 ?_
  refine z_wmL (As := [.int (zI (ya xs ((k : Int) + 1)))]) (rest := []) ⟨hx, hb, hml, hown, hts⟩ (c_X5_again l D cI cO cL bm ma hM σ H1 hRM1 (ya xs ((k : Int) + 1)) hZ.1 (ya_r xs _)) (cwV 1 hts gL_law_X5_again rfl rfl rfl (by decide +kernel) ⟨(Nat.le_of_ble_eq_true rfl), (Nat.le_of_ble_eq_true rfl)⟩) hK (m_recv hK hRM1) rfl hl.1 rfl (Nat.le_of_ble_eq_true rfl) dL_law_560 ⟨by show 20 + 2 * k + 2 ≤ 601024; omega, by show 400 + 24 * k + 12 ≤ 7293033; omega⟩ (fun rv σ' H2 L2 hp2 hRM2 hz2 hk2 hL2 => ?_)
  refine va_forget (fun q hq => by
    rcases List.mem_append.mp hq with z | z
    · cases z
    · exact (hAM _ (hL2 q z)).1) ?_
  have ht : 0 ≤ zth_again σ (ya xs ((k : Int) + 1)) ∧ zth_again σ (ya xs ((k : Int) + 1)) ≤ 3 := by unfold zth_again; (repeat' split) <;> omega
  obtain ⟨z2, e2, e3, e4, e5, e6⟩ := zPost_x hp2 (show zst_again (zup σ 0 0 0) (ya xs ((k : Int) + 1)) 0 0 = 0 from by rw [z00_again, zup_s])
  rw [e2]
  refine lv_istore (lv' := [(6, .int (zI z2)), (5, .int (zI (zth_again (zup σ 0 0 0) (ya xs ((k : Int) + 1))))), (0, .ref b), (1, .ref x0), (2, .ref bm), (3, .ref o), (4, .int (zI (k : Int)))]) hx hb dL_law_563 hl (by decide) rfl (fun ls hl => ?_)
  refine lv_aload_n hx hb dL_law_565 rfl (lv_at hl 4 rfl) ?_
  refine z_cv (As := []) (rest := []) ⟨hx, hb, hml, hown, hts⟩ (c_X5_thrown l D cI cO cL bm ma σ' H2 hRM2) (cwV 0 hts gL_law_X5_thrown rfl rfl rfl (by decide +kernel) ⟨(Nat.le_of_ble_eq_true rfl), (Nat.le_of_ble_eq_true rfl)⟩) (zKK_mv D cI cO cL) (fun U _ hv => va_K.moved hv hK) (m_recv hK hRM2) rfl hl.1 rfl (Nat.le_of_ble_eq_true rfl) dL_law_566 ⟨by show 20 + 2 * k + 2 ≤ 601024; omega, by show 400 + 24 * k + 12 ≤ 7293033; omega⟩ (fun r3 hr3 => ?_)
  rw [hr3, e4]
  refine lv_iload hx hb dL_law_569 (lv_at hl 1 rfl) ?_
  refine z_top (b := zth_again σ (ya xs ((k : Int) + 1))) rfl ?_
  refine z_icmp_eq (tgt := 576) hx hb dL_law_571 (by decide) (by omega) (fun _ => ?_) (fun c1 => absurd rfl c1)
  have hZ2 : zAll σ' := by
    by_cases z : zth_again σ (ya xs ((k : Int) + 1)) = 0
    · rw [e5 z]; exact zAll_again (zAll_th hZ 0) z
    · rw [e6 z]; exact zAll_th hZ _
  refine lv_iload hx hb dL_law_576 (lv_at hl 1 rfl) ?_
  refine z_top (b := zth_again σ (ya xs ((k : Int) + 1))) rfl ?_
  refine z_if_ne (tgt := 593) hx hb dL_law_578 (by decide) (by omega) (fun c1 => ?_) (fun c1 => ?_)
  · refine lv_goto (tgt := 1285) hx hb dL_law_593 (by decide) ?_
    exact W.widen (k := 20 + 2 * (k + 5)) (n := 400 + 24 * (k + 5)) (by show 20 + 2 * k + 2 ≤ _; omega) (by show 400 + 24 * k + 12 ≤ _; omega) (next σ' H2 ls ⟨⟨g1, hg1.trans hg, zFin (th := zth_again σ (ya xs ((k : Int) + 1))) ((hR1.kept (fun q h1 h2 => hk2 q h1 (hA1 q h2).2.1))) e5 e6⟩, hRM2, hZ2, ⟨f1, hO1.kept (hk2 o (z_lt hO1) hAMo)⟩, by omega, fun q hq => (hk2 q (by omega) (fun z => by have := (hAM q z).1; omega)).trans (hk31 q hq)⟩ (lv_sub hl [2, 3, 4, 5, 6] rfl))
  refine lv_aload_n hx hb dL_law_581 rfl (lv_at hl 5 rfl) ?_
  refine z_iconst hx hb dL_law_582 ?_
  refine va_lald (ws := [(o, zOut cL f1)]) hx hb hK (z_P1 (hO1.kept (hk2 o (z_lt hO1) hAMo))) 0 2 rfl rfl (zI_in (n := 1) (by decide)) dL_law_583 ?_
  refine lv_iload hx hb dL_law_584 (lv_at hl 0 rfl) ?_
  refine lv_i2l hx hb dL_law_586 rfl ?_
  refine W.lcmp hx hb dL_law_587 ?_
  refine z_tov (w := .int (zI 0)) (by rw [show f1 (zI 0).toNatClampNeg = (zI z2).toInt64 by rw [show (zI 0).toNatClampNeg = 0 by decide, e3 c1]; exact hf1 c1, z_cmp_eq]) ?_
  refine z_if_eq (tgt := 593) hx hb dL_law_588 (by decide) (by decide) (fun _ => ?_) (fun c2 => absurd rfl c2)
  refine lv_goto (tgt := 1285) hx hb dL_law_593 (by decide) ?_
  exact W.widen (k := 20 + 2 * (k + 5)) (n := 400 + 24 * (k + 5)) (by show 20 + 2 * k + 2 ≤ _; omega) (by show 400 + 24 * k + 12 ≤ _; omega) (next σ' H2 ls ⟨⟨g1, hg1.trans hg, zFin (th := zth_again σ (ya xs ((k : Int) + 1))) ((hR1.kept (fun q h1 h2 => hk2 q h1 (hA1 q h2).2.1))) e5 e6⟩, hRM2, hZ2, ⟨f1, hO1.kept (hk2 o (z_lt hO1) hAMo)⟩, by omega, fun q hq => (hk2 q (by omega) (fun z => by have := (hAM q z).1; omega)).trans (hk31 q hq)⟩ (lv_sub hl [2, 3, 4, 5, 6] rfl))

set_option maxRecDepth 100000 in
set_option maxHeartbeats 4000000 in
theorem law_drop {p : Program} {e : Env} {s : State} {m : MethodId} {below : List Frame} {meth : Method} {c : Code} (l : Launch) {b L : Nat} {xs : Nat → Int32} {D : va_G} {cI cO cL : ClassId} {A : Nat → Prop} {eE mi : Nat} {sa : Nat → Nat} {x0 bm : Nat} {ma : Nat → Nat} {o h3 : Nat} {Q : State → Prop} (C0 : LC l p s m c b L xs D cI cO cL A eE mi sa bm ma o h3) (k : Nat) (hk : k + 5 ≤ L) {σ : zT} {H : Heap} {ls : Array Slot} (Z : LZ s D cI cO cL A eE x0 bm ma o h3 σ H) (hl : lv_has ls 7 [(0, .ref b), (1, .ref x0), (2, .ref bm), (3, .ref o), (4, .int (zI (k : Int)))]) (next : ∀ (σ : zT) (H : Heap) (ls : Array Slot), LZ s D cI cO cL A eE x0 bm ma o h3 σ H → lv_has ls 7 [(0, .ref b), (1, .ref x0), (2, .ref bm), (3, .ref o), (4, .int (zI (k : Int)))] → W p l e room_1 s m #[Value.ref b] below meth c H [] (20 + 2 * (k + 5)) (400 + 24 * (k + 5)) Q (F0 m 1285 ls [])) : W p l e room_1 s m #[Value.ref b] below meth c H [] (20 + 2 * k) (400 + 24 * k) Q (F0 m 596 ls []) := by
  obtain ⟨⟨hx, hb, hml, hown, hts⟩, ⟨hX, hbl, hL⟩, hK, hM, hfl, hpre, hA1, hAMo, hoo, hAM, hs3⟩ := C0
  obtain ⟨⟨g, hg, hR⟩, hRM, hZ, ⟨f0, hO⟩, hz3, hk3⟩ := Z
  have hs : s.heap.size ≤ H.size := by omega
  refine lv_aload_n hx hb dL_law_596 rfl (lv_at hl 1 rfl) ?_
  refine lv_aload_n hx hb dL_law_597 rfl (lv_at hl 0 rfl) ?_
  refine lv_iload hx hb dL_law_598 (lv_at hl 4 rfl) ?_
  refine z_iconst hx hb dL_law_600 ?_
  refine z_iadd hx hb dL_law_601 ?_
  refine z_sc hx hb hX hbl hL hs hk3 (by omega) dL_law_602 ?_
  refine lv_aload_n hx hb dL_law_603 rfl (lv_at hl 0 rfl) ?_
  refine lv_iload hx hb dL_law_604 (lv_at hl 4 rfl) ?_
  refine z_iconst hx hb dL_law_606 ?_
  refine z_iadd hx hb dL_law_607 ?_
  refine z_sc hx hb hX hbl hL hs hk3 (by omega) dL_law_608 ?_
  refine lv_aload_n hx hb dL_law_609 rfl (lv_at hl 3 rfl) ?_
  have hR0 : RX D cO A eE g (zup σ 0 0 0) H := hR.eq0 (fun k j hk => zup_t (fun q => hk (by rw [q]; rfl)))
  refine z_lS (As := [.ref x0, .int (zI (ya xs ((k : Int) + 1))), .int (zI (ya xs ((k : Int) + 2))), .ref o]) (rest := []) (P := zLP D cO cL A eE o g (zup σ 0 0 0) (zth_drop (zup σ 0 0 0) (ya xs ((k : Int) + 1)) (ya xs ((k : Int) + 2))) (zst_drop (zup σ 0 0 0) (ya xs ((k : Int) + 1)) (ya xs ((k : Int) + 2))) (fun f => zth_drop (zup σ 0 0 0) (ya xs ((k : Int) + 1)) (ya xs ((k : Int) + 2)) = 0 → f 0 = (zI (zan_drop (zup σ 0 0 0) (ya xs ((k : Int) + 1)) (ya xs ((k : Int) + 2)))).toInt64)) ⟨hx, hb, hml, hown, hts⟩ (show zLM l yL_drop wsL_drop ({ frames := 9, cells := 3, slots := 18, locals := 210 }) D cI cO cL A eE mi sa o [.ref x0, .int (zI (ya xs ((k : Int) + 1))), .int (zI (ya xs ((k : Int) + 2))), .ref o] H _ by rw [← hg]; exact c_L_drop l hfl D cI cO cL A eE mi sa o g (zup σ 0 0 0) H f0 hR0 (zAll_th hZ 0) hO (fun z => (hA1 o z).1 rfl) (ya xs ((k : Int) + 1)) (ya xs ((k : Int) + 2)) (⟨ya_r xs _, ya_r xs _⟩)) (vx_cwSW 4 hts gL_law_L_drop rfl rfl rfl (by decide +kernel) ⟨(Nat.le_of_ble_eq_true rfl), (Nat.le_of_ble_eq_true rfl)⟩) (fun U hU hW => hpre U hW (by rw [hU]; exact hz3) (by rw [hU]; exact hk3)) rfl hl.1 rfl (Nat.le_of_ble_eq_true rfl) dL_law_610 ⟨by show 20 + 2 * k + 3 ≤ 601024; omega, by show 400 + 24 * k + 18 ≤ 7293033; omega⟩ (fun r1 H1 L1 hp1 hz1 hk1 hL1 => ?_)
  obtain ⟨e1, ⟨g1, hg1, hR1⟩, f1, hO1, hf1⟩ := hp1
  rw [e1]
  refine va_forget (fun q hq => by
    rcases List.mem_append.mp hq with z | z
    · cases z
    · rcases hL1 q z with w | w
      · exact (hA1 _ w).2.2
      · rw [w]; exact hoo.1) ?_
  have hs1 : s.heap.size ≤ H1.size := by omega
  have hk31 : ∀ q : Nat, q < s.heap.size → H1[q]? = s.heap[q]? := fun q hq => (hk1 q (by omega) (fun z => by
    rcases z with z | z
    · have := (hA1 q z).2.2; omega
    · omega)).trans (hk3 q hq)
  have hRM1 : RM D cI bm ma σ H1 := hRM.kept (fun q hq => hk1 q (by have := (hAM q hq).2; omega) (fun z => by
    rcases z with z | z
    · exact (hA1 q z).2.1 hq
    · rw [z] at hq; exact hAMo hq))
  refine lv_istore (lv' := [(5, .int (zI (zth_drop (zup σ 0 0 0) (ya xs ((k : Int) + 1)) (ya xs ((k : Int) + 2))))), (0, .ref b), (1, .ref x0), (2, .ref bm), (3, .ref o), (4, .int (zI (k : Int)))]) hx hb dL_law_613 hl (by decide) rfl (fun ls hl => ?_)
  refine lv_aload_n hx hb dL_law_615 rfl (lv_at hl 3 rfl) ?_
  refine lv_aload_n hx hb dL_law_616 rfl (lv_at hl 1 rfl) ?_
  refine lv_iload hx hb dL_law_617 (lv_at hl 5 rfl) ?_
  refine z_iconst hx hb dL_law_619 ?_
  refine z_iadd hx hb dL_law_620 ?_
  refine z_sc hx hb hX hbl hL hs1 hk31 (by omega) dL_law_621 ?_
  refine lv_aload_n hx hb dL_law_622 rfl (lv_at hl 1 rfl) ?_
  refine lv_iload hx hb dL_law_623 (lv_at hl 5 rfl) ?_
  refine z_iconst hx hb dL_law_625 ?_
  refine z_iadd hx hb dL_law_626 ?_
  refine z_sc hx hb hX hbl hL hs1 hk31 (by omega) dL_law_627 ?_
  refine z_wmL (As := [.int (zI (ya xs ((k : Int) + 1))), .int (zI (ya xs ((k : Int) + 2)))]) (rest := []) ⟨hx, hb, hml, hown, hts⟩ (c_X5_drop l D cI cO cL bm ma hM σ H1 hRM1 (ya xs ((k : Int) + 1)) (ya xs ((k : Int) + 2)) hZ.1 (ya_r xs _) (ya_r xs _)) (cwV 2 hts gL_law_X5_drop rfl rfl rfl (by decide +kernel) ⟨(Nat.le_of_ble_eq_true rfl), (Nat.le_of_ble_eq_true rfl)⟩) hK (m_recv hK hRM1) rfl hl.1 rfl (Nat.le_of_ble_eq_true rfl) dL_law_628 ⟨by show 20 + 2 * k + 3 ≤ 601024; omega, by show 400 + 24 * k + 18 ≤ 7293033; omega⟩ (fun rv σ' H2 L2 hp2 hRM2 hz2 hk2 hL2 => ?_)
  refine va_forget (fun q hq => by
    rcases List.mem_append.mp hq with z | z
    · cases z
    · exact (hAM _ (hL2 q z)).1) ?_
  have ht : 0 ≤ zth_drop σ (ya xs ((k : Int) + 1)) (ya xs ((k : Int) + 2)) ∧ zth_drop σ (ya xs ((k : Int) + 1)) (ya xs ((k : Int) + 2)) ≤ 3 := by unfold zth_drop; (repeat' split) <;> omega
  obtain ⟨z2, e2, e3, e4, e5, e6⟩ := zPost_x hp2 (show zst_drop (zup σ 0 0 0) (ya xs ((k : Int) + 1)) (ya xs ((k : Int) + 2)) 0 0 = 0 from by rw [z00_drop, zup_s])
  rw [e2]
  refine lv_istore (lv' := [(6, .int (zI z2)), (5, .int (zI (zth_drop (zup σ 0 0 0) (ya xs ((k : Int) + 1)) (ya xs ((k : Int) + 2))))), (0, .ref b), (1, .ref x0), (2, .ref bm), (3, .ref o), (4, .int (zI (k : Int)))]) hx hb dL_law_631 hl (by decide) rfl (fun ls hl => ?_)
  refine lv_aload_n hx hb dL_law_633 rfl (lv_at hl 4 rfl) ?_
  refine z_cv (As := []) (rest := []) ⟨hx, hb, hml, hown, hts⟩ (c_X5_thrown l D cI cO cL bm ma σ' H2 hRM2) (cwV 0 hts gL_law_X5_thrown rfl rfl rfl (by decide +kernel) ⟨(Nat.le_of_ble_eq_true rfl), (Nat.le_of_ble_eq_true rfl)⟩) (zKK_mv D cI cO cL) (fun U _ hv => va_K.moved hv hK) (m_recv hK hRM2) rfl hl.1 rfl (Nat.le_of_ble_eq_true rfl) dL_law_634 ⟨by show 20 + 2 * k + 3 ≤ 601024; omega, by show 400 + 24 * k + 18 ≤ 7293033; omega⟩ (fun r3 hr3 => ?_)
  rw [hr3, e4]
  refine lv_iload hx hb dL_law_637 (lv_at hl 1 rfl) ?_
  refine z_top (b := zth_drop σ (ya xs ((k : Int) + 1)) (ya xs ((k : Int) + 2))) rfl ?_
  refine z_icmp_eq (tgt := 644) hx hb dL_law_639 (by decide) (by omega) (fun _ => ?_) (fun c1 => absurd rfl c1)
  have hZ2 : zAll σ' := by
    by_cases z : zth_drop σ (ya xs ((k : Int) + 1)) (ya xs ((k : Int) + 2)) = 0
    · rw [e5 z]; exact zAll_drop (zAll_th hZ 0) z
    · rw [e6 z]; exact zAll_th hZ _
  refine lv_iload hx hb dL_law_644 (lv_at hl 1 rfl) ?_
  refine z_top (b := zth_drop σ (ya xs ((k : Int) + 1)) (ya xs ((k : Int) + 2))) rfl ?_
  refine z_if_ne (tgt := 661) hx hb dL_law_646 (by decide) (by omega) (fun c1 => ?_) (fun c1 => ?_)
  · refine lv_goto (tgt := 1285) hx hb dL_law_661 (by decide) ?_
    exact W.widen (k := 20 + 2 * (k + 5)) (n := 400 + 24 * (k + 5)) (by show 20 + 2 * k + 3 ≤ _; omega) (by show 400 + 24 * k + 18 ≤ _; omega) (next σ' H2 ls ⟨⟨g1, hg1.trans hg, zFin (th := zth_drop σ (ya xs ((k : Int) + 1)) (ya xs ((k : Int) + 2))) ((hR1.kept (fun q h1 h2 => hk2 q h1 (hA1 q h2).2.1))) e5 e6⟩, hRM2, hZ2, ⟨f1, hO1.kept (hk2 o (z_lt hO1) hAMo)⟩, by omega, fun q hq => (hk2 q (by omega) (fun z => by have := (hAM q z).1; omega)).trans (hk31 q hq)⟩ (lv_sub hl [2, 3, 4, 5, 6] rfl))
  refine lv_aload_n hx hb dL_law_649 rfl (lv_at hl 5 rfl) ?_
  refine z_iconst hx hb dL_law_650 ?_
  refine va_lald (ws := [(o, zOut cL f1)]) hx hb hK (z_P1 (hO1.kept (hk2 o (z_lt hO1) hAMo))) 0 2 rfl rfl (zI_in (n := 1) (by decide)) dL_law_651 ?_
  refine lv_iload hx hb dL_law_652 (lv_at hl 0 rfl) ?_
  refine lv_i2l hx hb dL_law_654 rfl ?_
  refine W.lcmp hx hb dL_law_655 ?_
  refine z_tov (w := .int (zI 0)) (by rw [show f1 (zI 0).toNatClampNeg = (zI z2).toInt64 by rw [show (zI 0).toNatClampNeg = 0 by decide, e3 c1]; exact hf1 c1, z_cmp_eq]) ?_
  refine z_if_eq (tgt := 661) hx hb dL_law_656 (by decide) (by decide) (fun _ => ?_) (fun c2 => absurd rfl c2)
  refine lv_goto (tgt := 1285) hx hb dL_law_661 (by decide) ?_
  exact W.widen (k := 20 + 2 * (k + 5)) (n := 400 + 24 * (k + 5)) (by show 20 + 2 * k + 3 ≤ _; omega) (by show 400 + 24 * k + 18 ≤ _; omega) (next σ' H2 ls ⟨⟨g1, hg1.trans hg, zFin (th := zth_drop σ (ya xs ((k : Int) + 1)) (ya xs ((k : Int) + 2))) ((hR1.kept (fun q h1 h2 => hk2 q h1 (hA1 q h2).2.1))) e5 e6⟩, hRM2, hZ2, ⟨f1, hO1.kept (hk2 o (z_lt hO1) hAMo)⟩, by omega, fun q hq => (hk2 q (by omega) (fun z => by have := (hAM q z).1; omega)).trans (hk31 q hq)⟩ (lv_sub hl [2, 3, 4, 5, 6] rfl))

set_option maxRecDepth 100000 in
set_option maxHeartbeats 4000000 in
theorem law_pass {p : Program} {e : Env} {s : State} {m : MethodId} {below : List Frame} {meth : Method} {c : Code} (l : Launch) {b L : Nat} {xs : Nat → Int32} {D : va_G} {cI cO cL : ClassId} {A : Nat → Prop} {eE mi : Nat} {sa : Nat → Nat} {x0 bm : Nat} {ma : Nat → Nat} {o h3 : Nat} {Q : State → Prop} (C0 : LC l p s m c b L xs D cI cO cL A eE mi sa bm ma o h3) (k : Nat) (hk : k + 5 ≤ L) {σ : zT} {H : Heap} {ls : Array Slot} (Z : LZ s D cI cO cL A eE x0 bm ma o h3 σ H) (hl : lv_has ls 7 [(0, .ref b), (1, .ref x0), (2, .ref bm), (3, .ref o), (4, .int (zI (k : Int)))]) (next : ∀ (σ : zT) (H : Heap) (ls : Array Slot), LZ s D cI cO cL A eE x0 bm ma o h3 σ H → lv_has ls 7 [(0, .ref b), (1, .ref x0), (2, .ref bm), (3, .ref o), (4, .int (zI (k : Int)))] → W p l e room_1 s m #[Value.ref b] below meth c H [] (20 + 2 * (k + 5)) (400 + 24 * (k + 5)) Q (F0 m 1285 ls [])) : W p l e room_1 s m #[Value.ref b] below meth c H [] (20 + 2 * k) (400 + 24 * k) Q (F0 m 664 ls []) := by
  obtain ⟨⟨hx, hb, hml, hown, hts⟩, ⟨hX, hbl, hL⟩, hK, hM, hfl, hpre, hA1, hAMo, hoo, hAM, hs3⟩ := C0
  obtain ⟨⟨g, hg, hR⟩, hRM, hZ, ⟨f0, hO⟩, hz3, hk3⟩ := Z
  have hs : s.heap.size ≤ H.size := by omega
  refine lv_aload_n hx hb dL_law_664 rfl (lv_at hl 1 rfl) ?_
  refine lv_aload_n hx hb dL_law_665 rfl (lv_at hl 0 rfl) ?_
  refine lv_iload hx hb dL_law_666 (lv_at hl 4 rfl) ?_
  refine z_iconst hx hb dL_law_668 ?_
  refine z_iadd hx hb dL_law_669 ?_
  refine z_sc hx hb hX hbl hL hs hk3 (by omega) dL_law_670 ?_
  refine lv_aload_n hx hb dL_law_671 rfl (lv_at hl 3 rfl) ?_
  have hR0 : RX D cO A eE g (zup σ 0 0 0) H := hR.eq0 (fun k j hk => zup_t (fun q => hk (by rw [q]; rfl)))
  refine z_lS (As := [.ref x0, .int (zI (ya xs ((k : Int) + 1))), .ref o]) (rest := []) (P := zLP D cO cL A eE o g (zup σ 0 0 0) (zth_pass (zup σ 0 0 0) (ya xs ((k : Int) + 1))) (zst_pass (zup σ 0 0 0) (ya xs ((k : Int) + 1))) (fun f => zth_pass (zup σ 0 0 0) (ya xs ((k : Int) + 1)) = 0 → f 0 = (zI (zan_pass (zup σ 0 0 0) (ya xs ((k : Int) + 1)))).toInt64)) ⟨hx, hb, hml, hown, hts⟩ (show zLM l yL_pass wsL_pass ({ frames := 8, cells := 2, slots := 12, locals := 127 }) D cI cO cL A eE mi sa o [.ref x0, .int (zI (ya xs ((k : Int) + 1))), .ref o] H _ by rw [← hg]; exact c_L_pass l hfl D cI cO cL A eE mi sa o g (zup σ 0 0 0) H f0 hR0 (zAll_th hZ 0) hO (fun z => (hA1 o z).1 rfl) (ya xs ((k : Int) + 1)) (ya_r xs _)) (vx_cwSW 3 hts gL_law_L_pass rfl rfl rfl (by decide +kernel) ⟨(Nat.le_of_ble_eq_true rfl), (Nat.le_of_ble_eq_true rfl)⟩) (fun U hU hW => hpre U hW (by rw [hU]; exact hz3) (by rw [hU]; exact hk3)) rfl hl.1 rfl (Nat.le_of_ble_eq_true rfl) dL_law_672 ⟨by show 20 + 2 * k + 2 ≤ 601024; omega, by show 400 + 24 * k + 12 ≤ 7293033; omega⟩ (fun r1 H1 L1 hp1 hz1 hk1 hL1 => ?_)
  obtain ⟨e1, ⟨g1, hg1, hR1⟩, f1, hO1, hf1⟩ := hp1
  rw [e1]
  refine va_forget (fun q hq => by
    rcases List.mem_append.mp hq with z | z
    · cases z
    · rcases hL1 q z with w | w
      · exact (hA1 _ w).2.2
      · rw [w]; exact hoo.1) ?_
  have hs1 : s.heap.size ≤ H1.size := by omega
  have hk31 : ∀ q : Nat, q < s.heap.size → H1[q]? = s.heap[q]? := fun q hq => (hk1 q (by omega) (fun z => by
    rcases z with z | z
    · have := (hA1 q z).2.2; omega
    · omega)).trans (hk3 q hq)
  have hRM1 : RM D cI bm ma σ H1 := hRM.kept (fun q hq => hk1 q (by have := (hAM q hq).2; omega) (fun z => by
    rcases z with z | z
    · exact (hA1 q z).2.1 hq
    · rw [z] at hq; exact hAMo hq))
  refine lv_istore (lv' := [(5, .int (zI (zth_pass (zup σ 0 0 0) (ya xs ((k : Int) + 1))))), (0, .ref b), (1, .ref x0), (2, .ref bm), (3, .ref o), (4, .int (zI (k : Int)))]) hx hb dL_law_675 hl (by decide) rfl (fun ls hl => ?_)
  refine lv_aload_n hx hb dL_law_677 rfl (lv_at hl 3 rfl) ?_
  refine lv_aload_n hx hb dL_law_678 rfl (lv_at hl 1 rfl) ?_
  refine lv_iload hx hb dL_law_679 (lv_at hl 5 rfl) ?_
  refine z_iconst hx hb dL_law_681 ?_
  refine z_iadd hx hb dL_law_682 ?_
  refine z_sc hx hb hX hbl hL hs1 hk31 (by omega) dL_law_683 ?_
  refine z_wmL (As := [.int (zI (ya xs ((k : Int) + 1)))]) (rest := []) ⟨hx, hb, hml, hown, hts⟩ (c_X5_pass l D cI cO cL bm ma hM σ H1 hRM1 (ya xs ((k : Int) + 1)) hZ.1 (ya_r xs _) hZ.2.1) (cwV 1 hts gL_law_X5_pass rfl rfl rfl (by decide +kernel) ⟨(Nat.le_of_ble_eq_true rfl), (Nat.le_of_ble_eq_true rfl)⟩) hK (m_recv hK hRM1) rfl hl.1 rfl (Nat.le_of_ble_eq_true rfl) dL_law_684 ⟨by show 20 + 2 * k + 2 ≤ 601024; omega, by show 400 + 24 * k + 12 ≤ 7293033; omega⟩ (fun rv σ' H2 L2 hp2 hRM2 hz2 hk2 hL2 => ?_)
  refine va_forget (fun q hq => by
    rcases List.mem_append.mp hq with z | z
    · cases z
    · exact (hAM _ (hL2 q z)).1) ?_
  have ht : 0 ≤ zth_pass σ (ya xs ((k : Int) + 1)) ∧ zth_pass σ (ya xs ((k : Int) + 1)) ≤ 3 := by unfold zth_pass; (repeat' split) <;> omega
  obtain ⟨z2, e2, e3, e4, e5, e6⟩ := zPost_x hp2 (show zst_pass (zup σ 0 0 0) (ya xs ((k : Int) + 1)) 0 0 = 0 from rfl)
  rw [e2]
  refine lv_istore (lv' := [(6, .int (zI z2)), (5, .int (zI (zth_pass (zup σ 0 0 0) (ya xs ((k : Int) + 1))))), (0, .ref b), (1, .ref x0), (2, .ref bm), (3, .ref o), (4, .int (zI (k : Int)))]) hx hb dL_law_687 hl (by decide) rfl (fun ls hl => ?_)
  refine lv_aload_n hx hb dL_law_689 rfl (lv_at hl 4 rfl) ?_
  refine z_cv (As := []) (rest := []) ⟨hx, hb, hml, hown, hts⟩ (c_X5_thrown l D cI cO cL bm ma σ' H2 hRM2) (cwV 0 hts gL_law_X5_thrown rfl rfl rfl (by decide +kernel) ⟨(Nat.le_of_ble_eq_true rfl), (Nat.le_of_ble_eq_true rfl)⟩) (zKK_mv D cI cO cL) (fun U _ hv => va_K.moved hv hK) (m_recv hK hRM2) rfl hl.1 rfl (Nat.le_of_ble_eq_true rfl) dL_law_690 ⟨by show 20 + 2 * k + 2 ≤ 601024; omega, by show 400 + 24 * k + 12 ≤ 7293033; omega⟩ (fun r3 hr3 => ?_)
  rw [hr3, e4]
  refine lv_iload hx hb dL_law_693 (lv_at hl 1 rfl) ?_
  refine z_top (b := zth_pass σ (ya xs ((k : Int) + 1))) rfl ?_
  refine z_icmp_eq (tgt := 700) hx hb dL_law_695 (by decide) (by omega) (fun _ => ?_) (fun c1 => absurd rfl c1)
  have hZ2 : zAll σ' := by
    by_cases z : zth_pass σ (ya xs ((k : Int) + 1)) = 0
    · rw [e5 z]; exact zAll_pass (zAll_th hZ 0) z
    · rw [e6 z]; exact zAll_th hZ _
  refine lv_iload hx hb dL_law_700 (lv_at hl 1 rfl) ?_
  refine z_top (b := zth_pass σ (ya xs ((k : Int) + 1))) rfl ?_
  refine z_if_ne (tgt := 717) hx hb dL_law_702 (by decide) (by omega) (fun c1 => ?_) (fun c1 => ?_)
  · refine lv_goto (tgt := 1285) hx hb dL_law_717 (by decide) ?_
    exact W.widen (k := 20 + 2 * (k + 5)) (n := 400 + 24 * (k + 5)) (by show 20 + 2 * k + 2 ≤ _; omega) (by show 400 + 24 * k + 12 ≤ _; omega) (next σ' H2 ls ⟨⟨g1, hg1.trans hg, zFin (th := zth_pass σ (ya xs ((k : Int) + 1))) ((hR1.kept (fun q h1 h2 => hk2 q h1 (hA1 q h2).2.1))) e5 e6⟩, hRM2, hZ2, ⟨f1, hO1.kept (hk2 o (z_lt hO1) hAMo)⟩, by omega, fun q hq => (hk2 q (by omega) (fun z => by have := (hAM q z).1; omega)).trans (hk31 q hq)⟩ (lv_sub hl [2, 3, 4, 5, 6] rfl))
  refine lv_aload_n hx hb dL_law_705 rfl (lv_at hl 5 rfl) ?_
  refine z_iconst hx hb dL_law_706 ?_
  refine va_lald (ws := [(o, zOut cL f1)]) hx hb hK (z_P1 (hO1.kept (hk2 o (z_lt hO1) hAMo))) 0 2 rfl rfl (zI_in (n := 1) (by decide)) dL_law_707 ?_
  refine lv_iload hx hb dL_law_708 (lv_at hl 0 rfl) ?_
  refine lv_i2l hx hb dL_law_710 rfl ?_
  refine W.lcmp hx hb dL_law_711 ?_
  refine z_tov (w := .int (zI 0)) (by rw [show f1 (zI 0).toNatClampNeg = (zI z2).toInt64 by rw [show (zI 0).toNatClampNeg = 0 by decide, e3 c1]; exact hf1 c1, z_cmp_eq]) ?_
  refine z_if_eq (tgt := 717) hx hb dL_law_712 (by decide) (by decide) (fun _ => ?_) (fun c2 => absurd rfl c2)
  refine lv_goto (tgt := 1285) hx hb dL_law_717 (by decide) ?_
  exact W.widen (k := 20 + 2 * (k + 5)) (n := 400 + 24 * (k + 5)) (by show 20 + 2 * k + 2 ≤ _; omega) (by show 400 + 24 * k + 12 ≤ _; omega) (next σ' H2 ls ⟨⟨g1, hg1.trans hg, zFin (th := zth_pass σ (ya xs ((k : Int) + 1))) ((hR1.kept (fun q h1 h2 => hk2 q h1 (hA1 q h2).2.1))) e5 e6⟩, hRM2, hZ2, ⟨f1, hO1.kept (hk2 o (z_lt hO1) hAMo)⟩, by omega, fun q hq => (hk2 q (by omega) (fun z => by have := (hAM q z).1; omega)).trans (hk31 q hq)⟩ (lv_sub hl [2, 3, 4, 5, 6] rfl))

set_option maxRecDepth 100000 in
set_option maxHeartbeats 4000000 in
theorem law_minute {p : Program} {e : Env} {s : State} {m : MethodId} {below : List Frame} {meth : Method} {c : Code} (l : Launch) {b L : Nat} {xs : Nat → Int32} {D : va_G} {cI cO cL : ClassId} {A : Nat → Prop} {eE mi : Nat} {sa : Nat → Nat} {x0 bm : Nat} {ma : Nat → Nat} {o h3 : Nat} {Q : State → Prop} (C0 : LC l p s m c b L xs D cI cO cL A eE mi sa bm ma o h3) (k : Nat) (hk : k + 5 ≤ L) {σ : zT} {H : Heap} {ls : Array Slot} (Z : LZ s D cI cO cL A eE x0 bm ma o h3 σ H) (hl : lv_has ls 7 [(0, .ref b), (1, .ref x0), (2, .ref bm), (3, .ref o), (4, .int (zI (k : Int)))]) (next : ∀ (σ : zT) (H : Heap) (ls : Array Slot), LZ s D cI cO cL A eE x0 bm ma o h3 σ H → lv_has ls 7 [(0, .ref b), (1, .ref x0), (2, .ref bm), (3, .ref o), (4, .int (zI (k : Int)))] → W p l e room_1 s m #[Value.ref b] below meth c H [] (20 + 2 * (k + 5)) (400 + 24 * (k + 5)) Q (F0 m 1285 ls [])) : W p l e room_1 s m #[Value.ref b] below meth c H [] (20 + 2 * k) (400 + 24 * k) Q (F0 m 720 ls []) := by
  obtain ⟨⟨hx, hb, hml, hown, hts⟩, ⟨hX, hbl, hL⟩, hK, hM, hfl, hpre, hA1, hAMo, hoo, hAM, hs3⟩ := C0
  obtain ⟨⟨g, hg, hR⟩, hRM, hZ, ⟨f0, hO⟩, hz3, hk3⟩ := Z
  have hs : s.heap.size ≤ H.size := by omega
  refine lv_aload_n hx hb dL_law_720 rfl (lv_at hl 1 rfl) ?_
  have hgx := z_recv hK hR.x (q := (RX4, TX4, 7)) rfl
  refine z_cv (As := []) (rest := []) ⟨hx, hb, hml, hown, hts⟩ (show zPM l yX4_minute wsX4_minute _ (zKK D cI cO cL) [.ref x0] H _ by rw [← hg]; exact c_X4_minute l D cI cO cL A eE g σ H hR) (cwV 0 hts gL_law_X4_minute rfl rfl rfl (by decide +kernel) ⟨(Nat.le_of_ble_eq_true rfl), (Nat.le_of_ble_eq_true rfl)⟩) (zKK_mv D cI cO cL) (fun U _ hv => va_K.moved hv hK) (by rw [← hg]; exact hgx) rfl hl.1 rfl (Nat.le_of_ble_eq_true rfl) dL_law_721 ⟨by show 20 + 2 * k ≤ 601024; omega, by show 400 + 24 * k ≤ 7293033; omega⟩ (fun r1 hr1 => ?_)
  rw [hr1]
  refine lv_aload_n hx hb dL_law_724 rfl (lv_at hl 2 rfl) ?_
  refine z_wmL (As := []) (rest := [.int (zI (σ 1 0))]) ⟨hx, hb, hml, hown, hts⟩ (c_X5_minute l D cI cO cL bm ma hM σ H hRM hZ.1) (cwV 0 hts gL_law_X5_minute rfl rfl rfl (by decide +kernel) ⟨(Nat.le_of_ble_eq_true rfl), (Nat.le_of_ble_eq_true rfl)⟩) hK (m_recv hK hRM) rfl hl.1 rfl (Nat.le_of_ble_eq_true rfl) dL_law_725 ⟨by show 20 + 2 * k ≤ 601024; omega, by show 400 + 24 * k ≤ 7293033; omega⟩ (fun rv σ' H2 L2 hp2 hRM2 hz2 hk2 hL2 => ?_)
  obtain ⟨e1, e2⟩ := hp2
  rw [e1]
  have f0r := hZ.1.r
  refine z_icmp_eq (tgt := 1285) hx hb dL_law_728 (by decide) (by omega) (fun _ => ?_) (fun c1 => absurd rfl c1)
  refine va_forget (fun q hq => by rcases List.mem_append.mp hq with z | z; cases z; exact (hAM _ (hL2 q z)).1) ?_
  refine W.widen (k := 20 + 2 * (k + 5)) (n := 400 + 24 * (k + 5)) (by omega) (by omega) ?_
  refine next σ' H2 ls ⟨⟨g, hg, ?_⟩, hRM2, by rw [e2]; exact zAll_th hZ 0, ⟨f0, hO.kept (hk2 o (z_lt hO) hAMo)⟩, by omega, fun q hq => (hk2 q (by omega) (fun z => by have := (hAM q z).1; omega)).trans (hk3 q hq)⟩ hl
  have h1 : RX D cO A eE g σ H2 := hR.kept (fun q h1 h2 => hk2 q h1 (hA1 q h2).2.1)
  rw [e2]
  exact h1.eq0 (fun k j hk => zup_t (fun q => hk (by rw [q]; rfl)))

set_option maxRecDepth 100000 in
set_option maxHeartbeats 4000000 in
theorem law_level {p : Program} {e : Env} {s : State} {m : MethodId} {below : List Frame} {meth : Method} {c : Code} (l : Launch) {b L : Nat} {xs : Nat → Int32} {D : va_G} {cI cO cL : ClassId} {A : Nat → Prop} {eE mi : Nat} {sa : Nat → Nat} {x0 bm : Nat} {ma : Nat → Nat} {o h3 : Nat} {Q : State → Prop} (C0 : LC l p s m c b L xs D cI cO cL A eE mi sa bm ma o h3) (k : Nat) (hk : k + 5 ≤ L) {σ : zT} {H : Heap} {ls : Array Slot} (Z : LZ s D cI cO cL A eE x0 bm ma o h3 σ H) (hl : lv_has ls 7 [(0, .ref b), (1, .ref x0), (2, .ref bm), (3, .ref o), (4, .int (zI (k : Int)))]) (next : ∀ (σ : zT) (H : Heap) (ls : Array Slot), LZ s D cI cO cL A eE x0 bm ma o h3 σ H → lv_has ls 7 [(0, .ref b), (1, .ref x0), (2, .ref bm), (3, .ref o), (4, .int (zI (k : Int)))] → W p l e room_1 s m #[Value.ref b] below meth c H [] (20 + 2 * (k + 5)) (400 + 24 * (k + 5)) Q (F0 m 1285 ls [])) : W p l e room_1 s m #[Value.ref b] below meth c H [] (20 + 2 * k) (400 + 24 * k) Q (F0 m 733 ls []) := by
  obtain ⟨⟨hx, hb, hml, hown, hts⟩, ⟨hX, hbl, hL⟩, hK, hM, hfl, hpre, hA1, hAMo, hoo, hAM, hs3⟩ := C0
  obtain ⟨⟨g, hg, hR⟩, hRM, hZ, ⟨f0, hO⟩, hz3, hk3⟩ := Z
  have hs : s.heap.size ≤ H.size := by omega
  refine lv_aload_n hx hb dL_law_733 rfl (lv_at hl 1 rfl) ?_
  refine lv_aload_n hx hb dL_law_734 rfl (lv_at hl 0 rfl) ?_
  refine lv_iload hx hb dL_law_735 (lv_at hl 4 rfl) ?_
  refine z_iconst hx hb dL_law_737 ?_
  refine z_iadd hx hb dL_law_738 ?_
  refine z_sc hx hb hX hbl hL hs hk3 (by omega) dL_law_739 ?_
  refine lv_aload_n hx hb dL_law_740 rfl (lv_at hl 3 rfl) ?_
  have hR0 : RX D cO A eE g (zup σ 0 0 0) H := hR.eq0 (fun k j hk => zup_t (fun q => hk (by rw [q]; rfl)))
  refine z_lS (As := [.ref x0, .int (zI (ya xs ((k : Int) + 1))), .ref o]) (rest := []) (P := zLP D cO cL A eE o g (zup σ 0 0 0) (zth_level (ya xs ((k : Int) + 1))) ((zup σ 0 0 0)) (fun f => zth_level (ya xs ((k : Int) + 1)) = 0 → f 0 = (zI (zLev (zup σ 0 0 0) (ya xs ((k : Int) + 1)))).toInt64)) ⟨hx, hb, hml, hown, hts⟩ (show zLM l yL_level wsL_level ({ frames := 8, cells := 1, slots := 6, locals := 125 }) D cI cO cL A eE mi sa o [.ref x0, .int (zI (ya xs ((k : Int) + 1))), .ref o] H _ by rw [← hg]; exact c_L_level l hfl D cI cO cL A eE mi sa o g (zup σ 0 0 0) H f0 hR0 (zAll_th hZ 0) hO (fun z => (hA1 o z).1 rfl) (ya xs ((k : Int) + 1)) (ya_r xs _)) (vx_cwSW 3 hts gL_law_L_level rfl rfl rfl (by decide +kernel) ⟨(Nat.le_of_ble_eq_true rfl), (Nat.le_of_ble_eq_true rfl)⟩) (fun U hU hW => hpre U hW (by rw [hU]; exact hz3) (by rw [hU]; exact hk3)) rfl hl.1 rfl (Nat.le_of_ble_eq_true rfl) dL_law_741 ⟨by show 20 + 2 * k + 1 ≤ 601024; omega, by show 400 + 24 * k + 6 ≤ 7293033; omega⟩ (fun r1 H1 L1 hp1 hz1 hk1 hL1 => ?_)
  obtain ⟨e1, ⟨g1, hg1, hR1⟩, f1, hO1, hf1⟩ := hp1
  rw [e1]
  refine va_forget (fun q hq => by
    rcases List.mem_append.mp hq with z | z
    · cases z
    · rcases hL1 q z with w | w
      · exact (hA1 _ w).2.2
      · rw [w]; exact hoo.1) ?_
  have hs1 : s.heap.size ≤ H1.size := by omega
  have hk31 : ∀ q : Nat, q < s.heap.size → H1[q]? = s.heap[q]? := fun q hq => (hk1 q (by omega) (fun z => by
    rcases z with z | z
    · have := (hA1 q z).2.2; omega
    · omega)).trans (hk3 q hq)
  have hRM1 : RM D cI bm ma σ H1 := hRM.kept (fun q hq => hk1 q (by have := (hAM q hq).2; omega) (fun z => by
    rcases z with z | z
    · exact (hA1 q z).2.1 hq
    · rw [z] at hq; exact hAMo hq))
  refine lv_istore (lv' := [(5, .int (zI (zth_level (ya xs ((k : Int) + 1))))), (0, .ref b), (1, .ref x0), (2, .ref bm), (3, .ref o), (4, .int (zI (k : Int)))]) hx hb dL_law_744 hl (by decide) rfl (fun ls hl => ?_)
  refine lv_aload_n hx hb dL_law_746 rfl (lv_at hl 3 rfl) ?_
  refine lv_aload_n hx hb dL_law_747 rfl (lv_at hl 1 rfl) ?_
  refine lv_iload hx hb dL_law_748 (lv_at hl 5 rfl) ?_
  refine z_iconst hx hb dL_law_750 ?_
  refine z_iadd hx hb dL_law_751 ?_
  refine z_sc hx hb hX hbl hL hs1 hk31 (by omega) dL_law_752 ?_
  refine z_wmL (As := [.int (zI (ya xs ((k : Int) + 1)))]) (rest := []) ⟨hx, hb, hml, hown, hts⟩ (c_X5_level l D cI cO cL bm ma hM σ H1 hRM1 (ya xs ((k : Int) + 1)) hZ.1 (ya_r xs _)) (cwV 1 hts gL_law_X5_level rfl rfl rfl (by decide +kernel) ⟨(Nat.le_of_ble_eq_true rfl), (Nat.le_of_ble_eq_true rfl)⟩) hK (m_recv hK hRM1) rfl hl.1 rfl (Nat.le_of_ble_eq_true rfl) dL_law_753 ⟨by show 20 + 2 * k + 1 ≤ 601024; omega, by show 400 + 24 * k + 6 ≤ 7293033; omega⟩ (fun rv σ' H2 L2 hp2 hRM2 hz2 hk2 hL2 => ?_)
  refine va_forget (fun q hq => by
    rcases List.mem_append.mp hq with z | z
    · cases z
    · exact (hAM _ (hL2 q z)).1) ?_
  have ht : 0 ≤ zth_level (ya xs ((k : Int) + 1)) ∧ zth_level (ya xs ((k : Int) + 1)) ≤ 3 := by unfold zth_level; (repeat' split) <;> omega
  obtain ⟨z2, e2, e3, e4, e5, e6⟩ := zPost_x hp2 (show (zup σ 0 0 0) 0 0 = 0 from zup_s _ _ _ _)
  rw [e2]
  refine lv_istore (lv' := [(6, .int (zI z2)), (5, .int (zI (zth_level (ya xs ((k : Int) + 1))))), (0, .ref b), (1, .ref x0), (2, .ref bm), (3, .ref o), (4, .int (zI (k : Int)))]) hx hb dL_law_756 hl (by decide) rfl (fun ls hl => ?_)
  refine lv_aload_n hx hb dL_law_758 rfl (lv_at hl 4 rfl) ?_
  refine z_cv (As := []) (rest := []) ⟨hx, hb, hml, hown, hts⟩ (c_X5_thrown l D cI cO cL bm ma σ' H2 hRM2) (cwV 0 hts gL_law_X5_thrown rfl rfl rfl (by decide +kernel) ⟨(Nat.le_of_ble_eq_true rfl), (Nat.le_of_ble_eq_true rfl)⟩) (zKK_mv D cI cO cL) (fun U _ hv => va_K.moved hv hK) (m_recv hK hRM2) rfl hl.1 rfl (Nat.le_of_ble_eq_true rfl) dL_law_759 ⟨by show 20 + 2 * k + 1 ≤ 601024; omega, by show 400 + 24 * k + 6 ≤ 7293033; omega⟩ (fun r3 hr3 => ?_)
  rw [hr3, e4]
  refine lv_iload hx hb dL_law_762 (lv_at hl 1 rfl) ?_
  refine z_top (b := zth_level (ya xs ((k : Int) + 1))) rfl ?_
  refine z_icmp_eq (tgt := 769) hx hb dL_law_764 (by decide) (by omega) (fun _ => ?_) (fun c1 => absurd rfl c1)
  have hZ2 : zAll σ' := by
    by_cases z : zth_level (ya xs ((k : Int) + 1)) = 0
    · rw [e5 z]; exact zAll_th hZ 0
    · rw [e6 z]; exact zAll_th hZ _
  refine lv_iload hx hb dL_law_769 (lv_at hl 1 rfl) ?_
  refine z_top (b := zth_level (ya xs ((k : Int) + 1))) rfl ?_
  refine z_if_ne (tgt := 786) hx hb dL_law_771 (by decide) (by omega) (fun c1 => ?_) (fun c1 => ?_)
  · refine lv_goto (tgt := 1285) hx hb dL_law_786 (by decide) ?_
    exact W.widen (k := 20 + 2 * (k + 5)) (n := 400 + 24 * (k + 5)) (by show 20 + 2 * k + 1 ≤ _; omega) (by show 400 + 24 * k + 6 ≤ _; omega) (next σ' H2 ls ⟨⟨g1, hg1.trans hg, zFin (th := zth_level (ya xs ((k : Int) + 1))) ((hR1.kept (fun q h1 h2 => hk2 q h1 (hA1 q h2).2.1))) e5 e6⟩, hRM2, hZ2, ⟨f1, hO1.kept (hk2 o (z_lt hO1) hAMo)⟩, by omega, fun q hq => (hk2 q (by omega) (fun z => by have := (hAM q z).1; omega)).trans (hk31 q hq)⟩ (lv_sub hl [2, 3, 4, 5, 6] rfl))
  refine lv_aload_n hx hb dL_law_774 rfl (lv_at hl 5 rfl) ?_
  refine z_iconst hx hb dL_law_775 ?_
  refine va_lald (ws := [(o, zOut cL f1)]) hx hb hK (z_P1 (hO1.kept (hk2 o (z_lt hO1) hAMo))) 0 2 rfl rfl (zI_in (n := 1) (by decide)) dL_law_776 ?_
  refine lv_iload hx hb dL_law_777 (lv_at hl 0 rfl) ?_
  refine lv_i2l hx hb dL_law_779 rfl ?_
  refine W.lcmp hx hb dL_law_780 ?_
  refine z_tov (w := .int (zI 0)) (by rw [show f1 (zI 0).toNatClampNeg = (zI z2).toInt64 by rw [show (zI 0).toNatClampNeg = 0 by decide, e3 c1]; exact hf1 c1, z_cmp_eq]) ?_
  refine z_if_eq (tgt := 786) hx hb dL_law_781 (by decide) (by decide) (fun _ => ?_) (fun c2 => absurd rfl c2)
  refine lv_goto (tgt := 1285) hx hb dL_law_786 (by decide) ?_
  exact W.widen (k := 20 + 2 * (k + 5)) (n := 400 + 24 * (k + 5)) (by show 20 + 2 * k + 1 ≤ _; omega) (by show 400 + 24 * k + 6 ≤ _; omega) (next σ' H2 ls ⟨⟨g1, hg1.trans hg, zFin (th := zth_level (ya xs ((k : Int) + 1))) ((hR1.kept (fun q h1 h2 => hk2 q h1 (hA1 q h2).2.1))) e5 e6⟩, hRM2, hZ2, ⟨f1, hO1.kept (hk2 o (z_lt hO1) hAMo)⟩, by omega, fun q hq => (hk2 q (by omega) (fun z => by have := (hAM q z).1; omega)).trans (hk31 q hq)⟩ (lv_sub hl [2, 3, 4, 5, 6] rfl))

set_option maxRecDepth 100000 in
set_option maxHeartbeats 4000000 in
theorem law_window {p : Program} {e : Env} {s : State} {m : MethodId} {below : List Frame} {meth : Method} {c : Code} (l : Launch) {b L : Nat} {xs : Nat → Int32} {D : va_G} {cI cO cL : ClassId} {A : Nat → Prop} {eE mi : Nat} {sa : Nat → Nat} {x0 bm : Nat} {ma : Nat → Nat} {o h3 : Nat} {Q : State → Prop} (C0 : LC l p s m c b L xs D cI cO cL A eE mi sa bm ma o h3) (k : Nat) (hk : k + 5 ≤ L) {σ : zT} {H : Heap} {ls : Array Slot} (Z : LZ s D cI cO cL A eE x0 bm ma o h3 σ H) (hl : lv_has ls 7 [(0, .ref b), (1, .ref x0), (2, .ref bm), (3, .ref o), (4, .int (zI (k : Int)))]) (next : ∀ (σ : zT) (H : Heap) (ls : Array Slot), LZ s D cI cO cL A eE x0 bm ma o h3 σ H → lv_has ls 7 [(0, .ref b), (1, .ref x0), (2, .ref bm), (3, .ref o), (4, .int (zI (k : Int)))] → W p l e room_1 s m #[Value.ref b] below meth c H [] (20 + 2 * (k + 5)) (400 + 24 * (k + 5)) Q (F0 m 1285 ls [])) : W p l e room_1 s m #[Value.ref b] below meth c H [] (20 + 2 * k) (400 + 24 * k) Q (F0 m 789 ls []) := by
  obtain ⟨⟨hx, hb, hml, hown, hts⟩, ⟨hX, hbl, hL⟩, hK, hM, hfl, hpre, hA1, hAMo, hoo, hAM, hs3⟩ := C0
  obtain ⟨⟨g, hg, hR⟩, hRM, hZ, ⟨f0, hO⟩, hz3, hk3⟩ := Z
  have hs : s.heap.size ≤ H.size := by omega
  refine lv_aload_n hx hb dL_law_789 rfl (lv_at hl 1 rfl) ?_
  refine lv_aload_n hx hb dL_law_790 rfl (lv_at hl 0 rfl) ?_
  refine lv_iload hx hb dL_law_791 (lv_at hl 4 rfl) ?_
  refine z_iconst hx hb dL_law_793 ?_
  refine z_iadd hx hb dL_law_794 ?_
  refine z_sc hx hb hX hbl hL hs hk3 (by omega) dL_law_795 ?_
  refine lv_aload_n hx hb dL_law_796 rfl (lv_at hl 0 rfl) ?_
  refine lv_iload hx hb dL_law_797 (lv_at hl 4 rfl) ?_
  refine z_iconst hx hb dL_law_799 ?_
  refine z_iadd hx hb dL_law_800 ?_
  refine z_sc hx hb hX hbl hL hs hk3 (by omega) dL_law_801 ?_
  refine lv_aload_n hx hb dL_law_802 rfl (lv_at hl 3 rfl) ?_
  have hR0 : RX D cO A eE g (zup σ 0 0 0) H := hR.eq0 (fun k j hk => zup_t (fun q => hk (by rw [q]; rfl)))
  refine z_lS (As := [.ref x0, .int (zI (ya xs ((k : Int) + 1))), .int (zI (ya xs ((k : Int) + 2))), .ref o]) (rest := []) (P := zLP D cO cL A eE o g (zup σ 0 0 0) (zth_window (zup σ 0 0 0) (ya xs ((k : Int) + 1)) (ya xs ((k : Int) + 2))) ((zup σ 0 0 0)) (fun f => zth_window (zup σ 0 0 0) (ya xs ((k : Int) + 1)) (ya xs ((k : Int) + 2)) = 0 → f 0 = (zI (zan_window (zup σ 0 0 0) (ya xs ((k : Int) + 1)) (ya xs ((k : Int) + 2)))).toInt64)) ⟨hx, hb, hml, hown, hts⟩ (show zLM l yL_window wsL_window ({ frames := 8, cells := 2, slots := 12, locals := 130 }) D cI cO cL A eE mi sa o [.ref x0, .int (zI (ya xs ((k : Int) + 1))), .int (zI (ya xs ((k : Int) + 2))), .ref o] H _ by rw [← hg]; exact c_L_window l hfl D cI cO cL A eE mi sa o g (zup σ 0 0 0) H f0 hR0 (zAll_th hZ 0) hO (fun z => (hA1 o z).1 rfl) (ya xs ((k : Int) + 1)) (ya xs ((k : Int) + 2)) (⟨ya_r xs _, ya_r xs _⟩)) (vx_cwSW 4 hts gL_law_L_window rfl rfl rfl (by decide +kernel) ⟨(Nat.le_of_ble_eq_true rfl), (Nat.le_of_ble_eq_true rfl)⟩) (fun U hU hW => hpre U hW (by rw [hU]; exact hz3) (by rw [hU]; exact hk3)) rfl hl.1 rfl (Nat.le_of_ble_eq_true rfl) dL_law_803 ⟨by show 20 + 2 * k + 2 ≤ 601024; omega, by show 400 + 24 * k + 12 ≤ 7293033; omega⟩ (fun r1 H1 L1 hp1 hz1 hk1 hL1 => ?_)
  obtain ⟨e1, ⟨g1, hg1, hR1⟩, f1, hO1, hf1⟩ := hp1
  rw [e1]
  refine va_forget (fun q hq => by
    rcases List.mem_append.mp hq with z | z
    · cases z
    · rcases hL1 q z with w | w
      · exact (hA1 _ w).2.2
      · rw [w]; exact hoo.1) ?_
  have hs1 : s.heap.size ≤ H1.size := by omega
  have hk31 : ∀ q : Nat, q < s.heap.size → H1[q]? = s.heap[q]? := fun q hq => (hk1 q (by omega) (fun z => by
    rcases z with z | z
    · have := (hA1 q z).2.2; omega
    · omega)).trans (hk3 q hq)
  have hRM1 : RM D cI bm ma σ H1 := hRM.kept (fun q hq => hk1 q (by have := (hAM q hq).2; omega) (fun z => by
    rcases z with z | z
    · exact (hA1 q z).2.1 hq
    · rw [z] at hq; exact hAMo hq))
  refine lv_istore (lv' := [(5, .int (zI (zth_window (zup σ 0 0 0) (ya xs ((k : Int) + 1)) (ya xs ((k : Int) + 2))))), (0, .ref b), (1, .ref x0), (2, .ref bm), (3, .ref o), (4, .int (zI (k : Int)))]) hx hb dL_law_806 hl (by decide) rfl (fun ls hl => ?_)
  refine lv_aload_n hx hb dL_law_808 rfl (lv_at hl 3 rfl) ?_
  refine lv_aload_n hx hb dL_law_809 rfl (lv_at hl 1 rfl) ?_
  refine lv_iload hx hb dL_law_810 (lv_at hl 5 rfl) ?_
  refine z_iconst hx hb dL_law_812 ?_
  refine z_iadd hx hb dL_law_813 ?_
  refine z_sc hx hb hX hbl hL hs1 hk31 (by omega) dL_law_814 ?_
  refine lv_aload_n hx hb dL_law_815 rfl (lv_at hl 1 rfl) ?_
  refine lv_iload hx hb dL_law_816 (lv_at hl 5 rfl) ?_
  refine z_iconst hx hb dL_law_818 ?_
  refine z_iadd hx hb dL_law_819 ?_
  refine z_sc hx hb hX hbl hL hs1 hk31 (by omega) dL_law_820 ?_
  refine z_wmL (As := [.int (zI (ya xs ((k : Int) + 1))), .int (zI (ya xs ((k : Int) + 2)))]) (rest := []) ⟨hx, hb, hml, hown, hts⟩ (c_X5_window l D cI cO cL bm ma hM σ H1 hRM1 (ya xs ((k : Int) + 1)) (ya xs ((k : Int) + 2)) hZ.1 (ya_r xs _) (ya_r xs _)) (cwV 2 hts gL_law_X5_window rfl rfl rfl (by decide +kernel) ⟨(Nat.le_of_ble_eq_true rfl), (Nat.le_of_ble_eq_true rfl)⟩) hK (m_recv hK hRM1) rfl hl.1 rfl (Nat.le_of_ble_eq_true rfl) dL_law_821 ⟨by show 20 + 2 * k + 2 ≤ 601024; omega, by show 400 + 24 * k + 12 ≤ 7293033; omega⟩ (fun rv σ' H2 L2 hp2 hRM2 hz2 hk2 hL2 => ?_)
  refine va_forget (fun q hq => by
    rcases List.mem_append.mp hq with z | z
    · cases z
    · exact (hAM _ (hL2 q z)).1) ?_
  have ht : 0 ≤ zth_window σ (ya xs ((k : Int) + 1)) (ya xs ((k : Int) + 2)) ∧ zth_window σ (ya xs ((k : Int) + 1)) (ya xs ((k : Int) + 2)) ≤ 3 := by unfold zth_window; (repeat' split) <;> omega
  obtain ⟨z2, e2, e3, e4, e5, e6⟩ := zPost_x hp2 (show (zup σ 0 0 0) 0 0 = 0 from zup_s _ _ _ _)
  rw [e2]
  refine lv_istore (lv' := [(6, .int (zI z2)), (5, .int (zI (zth_window (zup σ 0 0 0) (ya xs ((k : Int) + 1)) (ya xs ((k : Int) + 2))))), (0, .ref b), (1, .ref x0), (2, .ref bm), (3, .ref o), (4, .int (zI (k : Int)))]) hx hb dL_law_824 hl (by decide) rfl (fun ls hl => ?_)
  refine lv_aload_n hx hb dL_law_826 rfl (lv_at hl 4 rfl) ?_
  refine z_cv (As := []) (rest := []) ⟨hx, hb, hml, hown, hts⟩ (c_X5_thrown l D cI cO cL bm ma σ' H2 hRM2) (cwV 0 hts gL_law_X5_thrown rfl rfl rfl (by decide +kernel) ⟨(Nat.le_of_ble_eq_true rfl), (Nat.le_of_ble_eq_true rfl)⟩) (zKK_mv D cI cO cL) (fun U _ hv => va_K.moved hv hK) (m_recv hK hRM2) rfl hl.1 rfl (Nat.le_of_ble_eq_true rfl) dL_law_827 ⟨by show 20 + 2 * k + 2 ≤ 601024; omega, by show 400 + 24 * k + 12 ≤ 7293033; omega⟩ (fun r3 hr3 => ?_)
  rw [hr3, e4]
  refine lv_iload hx hb dL_law_830 (lv_at hl 1 rfl) ?_
  refine z_top (b := zth_window σ (ya xs ((k : Int) + 1)) (ya xs ((k : Int) + 2))) rfl ?_
  refine z_icmp_eq (tgt := 837) hx hb dL_law_832 (by decide) (by omega) (fun _ => ?_) (fun c1 => absurd rfl c1)
  have hZ2 : zAll σ' := by
    by_cases z : zth_window σ (ya xs ((k : Int) + 1)) (ya xs ((k : Int) + 2)) = 0
    · rw [e5 z]; exact zAll_th hZ 0
    · rw [e6 z]; exact zAll_th hZ _
  refine lv_iload hx hb dL_law_837 (lv_at hl 1 rfl) ?_
  refine z_top (b := zth_window σ (ya xs ((k : Int) + 1)) (ya xs ((k : Int) + 2))) rfl ?_
  refine z_if_ne (tgt := 854) hx hb dL_law_839 (by decide) (by omega) (fun c1 => ?_) (fun c1 => ?_)
  · refine lv_goto (tgt := 1285) hx hb dL_law_854 (by decide) ?_
    exact W.widen (k := 20 + 2 * (k + 5)) (n := 400 + 24 * (k + 5)) (by show 20 + 2 * k + 2 ≤ _; omega) (by show 400 + 24 * k + 12 ≤ _; omega) (next σ' H2 ls ⟨⟨g1, hg1.trans hg, zFin (th := zth_window σ (ya xs ((k : Int) + 1)) (ya xs ((k : Int) + 2))) ((hR1.kept (fun q h1 h2 => hk2 q h1 (hA1 q h2).2.1))) e5 e6⟩, hRM2, hZ2, ⟨f1, hO1.kept (hk2 o (z_lt hO1) hAMo)⟩, by omega, fun q hq => (hk2 q (by omega) (fun z => by have := (hAM q z).1; omega)).trans (hk31 q hq)⟩ (lv_sub hl [2, 3, 4, 5, 6] rfl))
  refine lv_aload_n hx hb dL_law_842 rfl (lv_at hl 5 rfl) ?_
  refine z_iconst hx hb dL_law_843 ?_
  refine va_lald (ws := [(o, zOut cL f1)]) hx hb hK (z_P1 (hO1.kept (hk2 o (z_lt hO1) hAMo))) 0 2 rfl rfl (zI_in (n := 1) (by decide)) dL_law_844 ?_
  refine lv_iload hx hb dL_law_845 (lv_at hl 0 rfl) ?_
  refine lv_i2l hx hb dL_law_847 rfl ?_
  refine W.lcmp hx hb dL_law_848 ?_
  refine z_tov (w := .int (zI 0)) (by rw [show f1 (zI 0).toNatClampNeg = (zI z2).toInt64 by rw [show (zI 0).toNatClampNeg = 0 by decide, e3 c1]; exact hf1 c1, z_cmp_eq]) ?_
  refine z_if_eq (tgt := 854) hx hb dL_law_849 (by decide) (by decide) (fun _ => ?_) (fun c2 => absurd rfl c2)
  refine lv_goto (tgt := 1285) hx hb dL_law_854 (by decide) ?_
  exact W.widen (k := 20 + 2 * (k + 5)) (n := 400 + 24 * (k + 5)) (by show 20 + 2 * k + 2 ≤ _; omega) (by show 400 + 24 * k + 12 ≤ _; omega) (next σ' H2 ls ⟨⟨g1, hg1.trans hg, zFin (th := zth_window σ (ya xs ((k : Int) + 1)) (ya xs ((k : Int) + 2))) ((hR1.kept (fun q h1 h2 => hk2 q h1 (hA1 q h2).2.1))) e5 e6⟩, hRM2, hZ2, ⟨f1, hO1.kept (hk2 o (z_lt hO1) hAMo)⟩, by omega, fun q hq => (hk2 q (by omega) (fun z => by have := (hAM q z).1; omega)).trans (hk31 q hq)⟩ (lv_sub hl [2, 3, 4, 5, 6] rfl))

set_option maxRecDepth 100000 in
set_option maxHeartbeats 4000000 in
theorem law_ofConference {p : Program} {e : Env} {s : State} {m : MethodId} {below : List Frame} {meth : Method} {c : Code} (l : Launch) {b L : Nat} {xs : Nat → Int32} {D : va_G} {cI cO cL : ClassId} {A : Nat → Prop} {eE mi : Nat} {sa : Nat → Nat} {x0 bm : Nat} {ma : Nat → Nat} {o h3 : Nat} {Q : State → Prop} (C0 : LC l p s m c b L xs D cI cO cL A eE mi sa bm ma o h3) (k : Nat) (hk : k + 5 ≤ L) {σ : zT} {H : Heap} {ls : Array Slot} (Z : LZ s D cI cO cL A eE x0 bm ma o h3 σ H) (hl : lv_has ls 7 [(0, .ref b), (1, .ref x0), (2, .ref bm), (3, .ref o), (4, .int (zI (k : Int)))]) (next : ∀ (σ : zT) (H : Heap) (ls : Array Slot), LZ s D cI cO cL A eE x0 bm ma o h3 σ H → lv_has ls 7 [(0, .ref b), (1, .ref x0), (2, .ref bm), (3, .ref o), (4, .int (zI (k : Int)))] → W p l e room_1 s m #[Value.ref b] below meth c H [] (20 + 2 * (k + 5)) (400 + 24 * (k + 5)) Q (F0 m 1285 ls [])) : W p l e room_1 s m #[Value.ref b] below meth c H [] (20 + 2 * k) (400 + 24 * k) Q (F0 m 857 ls []) := by
  obtain ⟨⟨hx, hb, hml, hown, hts⟩, ⟨hX, hbl, hL⟩, hK, hM, hfl, hpre, hA1, hAMo, hoo, hAM, hs3⟩ := C0
  obtain ⟨⟨g, hg, hR⟩, hRM, hZ, ⟨f0, hO⟩, hz3, hk3⟩ := Z
  have hs : s.heap.size ≤ H.size := by omega
  refine lv_aload_n hx hb dL_law_857 rfl (lv_at hl 1 rfl) ?_
  refine lv_aload_n hx hb dL_law_858 rfl (lv_at hl 0 rfl) ?_
  refine lv_iload hx hb dL_law_859 (lv_at hl 4 rfl) ?_
  refine z_iconst hx hb dL_law_861 ?_
  refine z_iadd hx hb dL_law_862 ?_
  refine z_sc hx hb hX hbl hL hs hk3 (by omega) dL_law_863 ?_
  refine lv_aload_n hx hb dL_law_864 rfl (lv_at hl 0 rfl) ?_
  refine lv_iload hx hb dL_law_865 (lv_at hl 4 rfl) ?_
  refine z_iconst hx hb dL_law_867 ?_
  refine z_iadd hx hb dL_law_868 ?_
  refine z_sc hx hb hX hbl hL hs hk3 (by omega) dL_law_869 ?_
  refine lv_aload_n hx hb dL_law_870 rfl (lv_at hl 3 rfl) ?_
  have hR0 : RX D cO A eE g (zup σ 0 0 0) H := hR.eq0 (fun k j hk => zup_t (fun q => hk (by rw [q]; rfl)))
  refine z_lS (As := [.ref x0, .int (zI (ya xs ((k : Int) + 1))), .int (zI (ya xs ((k : Int) + 2))), .ref o]) (rest := []) (P := zLP D cO cL A eE o g (zup σ 0 0 0) (zth_ofC (zup σ 0 0 0) (ya xs ((k : Int) + 1)) (ya xs ((k : Int) + 2))) ((zup σ 0 0 0)) (fun f => zth_ofC (zup σ 0 0 0) (ya xs ((k : Int) + 1)) (ya xs ((k : Int) + 2)) = 0 → f 0 = (zI (zan_ofC (zup σ 0 0 0) (ya xs ((k : Int) + 1)) (ya xs ((k : Int) + 2)))).toInt64)) ⟨hx, hb, hml, hown, hts⟩ (show zLM l yL_ofConference wsL_ofConference ({ frames := 8, cells := 2, slots := 12, locals := 126 }) D cI cO cL A eE mi sa o [.ref x0, .int (zI (ya xs ((k : Int) + 1))), .int (zI (ya xs ((k : Int) + 2))), .ref o] H _ by rw [← hg]; exact c_L_ofConference l hfl D cI cO cL A eE mi sa o g (zup σ 0 0 0) H f0 hR0 (zAll_th hZ 0) hO (fun z => (hA1 o z).1 rfl) (ya xs ((k : Int) + 1)) (ya xs ((k : Int) + 2)) (⟨ya_r xs _, ya_r xs _⟩)) (vx_cwSW 4 hts gL_law_L_ofConference rfl rfl rfl (by decide +kernel) ⟨(Nat.le_of_ble_eq_true rfl), (Nat.le_of_ble_eq_true rfl)⟩) (fun U hU hW => hpre U hW (by rw [hU]; exact hz3) (by rw [hU]; exact hk3)) rfl hl.1 rfl (Nat.le_of_ble_eq_true rfl) dL_law_871 ⟨by show 20 + 2 * k + 2 ≤ 601024; omega, by show 400 + 24 * k + 12 ≤ 7293033; omega⟩ (fun r1 H1 L1 hp1 hz1 hk1 hL1 => ?_)
  obtain ⟨e1, ⟨g1, hg1, hR1⟩, f1, hO1, hf1⟩ := hp1
  rw [e1]
  refine va_forget (fun q hq => by
    rcases List.mem_append.mp hq with z | z
    · cases z
    · rcases hL1 q z with w | w
      · exact (hA1 _ w).2.2
      · rw [w]; exact hoo.1) ?_
  have hs1 : s.heap.size ≤ H1.size := by omega
  have hk31 : ∀ q : Nat, q < s.heap.size → H1[q]? = s.heap[q]? := fun q hq => (hk1 q (by omega) (fun z => by
    rcases z with z | z
    · have := (hA1 q z).2.2; omega
    · omega)).trans (hk3 q hq)
  have hRM1 : RM D cI bm ma σ H1 := hRM.kept (fun q hq => hk1 q (by have := (hAM q hq).2; omega) (fun z => by
    rcases z with z | z
    · exact (hA1 q z).2.1 hq
    · rw [z] at hq; exact hAMo hq))
  refine lv_istore (lv' := [(5, .int (zI (zth_ofC (zup σ 0 0 0) (ya xs ((k : Int) + 1)) (ya xs ((k : Int) + 2))))), (0, .ref b), (1, .ref x0), (2, .ref bm), (3, .ref o), (4, .int (zI (k : Int)))]) hx hb dL_law_874 hl (by decide) rfl (fun ls hl => ?_)
  refine lv_aload_n hx hb dL_law_876 rfl (lv_at hl 3 rfl) ?_
  refine lv_aload_n hx hb dL_law_877 rfl (lv_at hl 1 rfl) ?_
  refine lv_iload hx hb dL_law_878 (lv_at hl 5 rfl) ?_
  refine z_iconst hx hb dL_law_880 ?_
  refine z_iadd hx hb dL_law_881 ?_
  refine z_sc hx hb hX hbl hL hs1 hk31 (by omega) dL_law_882 ?_
  refine lv_aload_n hx hb dL_law_883 rfl (lv_at hl 1 rfl) ?_
  refine lv_iload hx hb dL_law_884 (lv_at hl 5 rfl) ?_
  refine z_iconst hx hb dL_law_886 ?_
  refine z_iadd hx hb dL_law_887 ?_
  refine z_sc hx hb hX hbl hL hs1 hk31 (by omega) dL_law_888 ?_
  refine z_wmL (As := [.int (zI (ya xs ((k : Int) + 1))), .int (zI (ya xs ((k : Int) + 2)))]) (rest := []) ⟨hx, hb, hml, hown, hts⟩ (c_X5_ofConference l D cI cO cL bm ma hM σ H1 hRM1 (ya xs ((k : Int) + 1)) (ya xs ((k : Int) + 2)) hZ.1 (ya_r xs _) (ya_r xs _)) (cwV 2 hts gL_law_X5_ofConference rfl rfl rfl (by decide +kernel) ⟨(Nat.le_of_ble_eq_true rfl), (Nat.le_of_ble_eq_true rfl)⟩) hK (m_recv hK hRM1) rfl hl.1 rfl (Nat.le_of_ble_eq_true rfl) dL_law_889 ⟨by show 20 + 2 * k + 2 ≤ 601024; omega, by show 400 + 24 * k + 12 ≤ 7293033; omega⟩ (fun rv σ' H2 L2 hp2 hRM2 hz2 hk2 hL2 => ?_)
  refine va_forget (fun q hq => by
    rcases List.mem_append.mp hq with z | z
    · cases z
    · exact (hAM _ (hL2 q z)).1) ?_
  have ht : 0 ≤ zth_ofC σ (ya xs ((k : Int) + 1)) (ya xs ((k : Int) + 2)) ∧ zth_ofC σ (ya xs ((k : Int) + 1)) (ya xs ((k : Int) + 2)) ≤ 3 := by unfold zth_ofC; (repeat' split) <;> omega
  obtain ⟨z2, e2, e3, e4, e5, e6⟩ := zPost_x hp2 (show (zup σ 0 0 0) 0 0 = 0 from zup_s _ _ _ _)
  rw [e2]
  refine lv_istore (lv' := [(6, .int (zI z2)), (5, .int (zI (zth_ofC (zup σ 0 0 0) (ya xs ((k : Int) + 1)) (ya xs ((k : Int) + 2))))), (0, .ref b), (1, .ref x0), (2, .ref bm), (3, .ref o), (4, .int (zI (k : Int)))]) hx hb dL_law_892 hl (by decide) rfl (fun ls hl => ?_)
  refine lv_aload_n hx hb dL_law_894 rfl (lv_at hl 4 rfl) ?_
  refine z_cv (As := []) (rest := []) ⟨hx, hb, hml, hown, hts⟩ (c_X5_thrown l D cI cO cL bm ma σ' H2 hRM2) (cwV 0 hts gL_law_X5_thrown rfl rfl rfl (by decide +kernel) ⟨(Nat.le_of_ble_eq_true rfl), (Nat.le_of_ble_eq_true rfl)⟩) (zKK_mv D cI cO cL) (fun U _ hv => va_K.moved hv hK) (m_recv hK hRM2) rfl hl.1 rfl (Nat.le_of_ble_eq_true rfl) dL_law_895 ⟨by show 20 + 2 * k + 2 ≤ 601024; omega, by show 400 + 24 * k + 12 ≤ 7293033; omega⟩ (fun r3 hr3 => ?_)
  rw [hr3, e4]
  refine lv_iload hx hb dL_law_898 (lv_at hl 1 rfl) ?_
  refine z_top (b := zth_ofC σ (ya xs ((k : Int) + 1)) (ya xs ((k : Int) + 2))) rfl ?_
  refine z_icmp_eq (tgt := 905) hx hb dL_law_900 (by decide) (by omega) (fun _ => ?_) (fun c1 => absurd rfl c1)
  have hZ2 : zAll σ' := by
    by_cases z : zth_ofC σ (ya xs ((k : Int) + 1)) (ya xs ((k : Int) + 2)) = 0
    · rw [e5 z]; exact zAll_th hZ 0
    · rw [e6 z]; exact zAll_th hZ _
  refine lv_iload hx hb dL_law_905 (lv_at hl 1 rfl) ?_
  refine z_top (b := zth_ofC σ (ya xs ((k : Int) + 1)) (ya xs ((k : Int) + 2))) rfl ?_
  refine z_if_ne (tgt := 922) hx hb dL_law_907 (by decide) (by omega) (fun c1 => ?_) (fun c1 => ?_)
  · refine lv_goto (tgt := 1285) hx hb dL_law_922 (by decide) ?_
    exact W.widen (k := 20 + 2 * (k + 5)) (n := 400 + 24 * (k + 5)) (by show 20 + 2 * k + 2 ≤ _; omega) (by show 400 + 24 * k + 12 ≤ _; omega) (next σ' H2 ls ⟨⟨g1, hg1.trans hg, zFin (th := zth_ofC σ (ya xs ((k : Int) + 1)) (ya xs ((k : Int) + 2))) ((hR1.kept (fun q h1 h2 => hk2 q h1 (hA1 q h2).2.1))) e5 e6⟩, hRM2, hZ2, ⟨f1, hO1.kept (hk2 o (z_lt hO1) hAMo)⟩, by omega, fun q hq => (hk2 q (by omega) (fun z => by have := (hAM q z).1; omega)).trans (hk31 q hq)⟩ (lv_sub hl [2, 3, 4, 5, 6] rfl))
  refine lv_aload_n hx hb dL_law_910 rfl (lv_at hl 5 rfl) ?_
  refine z_iconst hx hb dL_law_911 ?_
  refine va_lald (ws := [(o, zOut cL f1)]) hx hb hK (z_P1 (hO1.kept (hk2 o (z_lt hO1) hAMo))) 0 2 rfl rfl (zI_in (n := 1) (by decide)) dL_law_912 ?_
  refine lv_iload hx hb dL_law_913 (lv_at hl 0 rfl) ?_
  refine lv_i2l hx hb dL_law_915 rfl ?_
  refine W.lcmp hx hb dL_law_916 ?_
  refine z_tov (w := .int (zI 0)) (by rw [show f1 (zI 0).toNatClampNeg = (zI z2).toInt64 by rw [show (zI 0).toNatClampNeg = 0 by decide, e3 c1]; exact hf1 c1, z_cmp_eq]) ?_
  refine z_if_eq (tgt := 922) hx hb dL_law_917 (by decide) (by decide) (fun _ => ?_) (fun c2 => absurd rfl c2)
  refine lv_goto (tgt := 1285) hx hb dL_law_922 (by decide) ?_
  exact W.widen (k := 20 + 2 * (k + 5)) (n := 400 + 24 * (k + 5)) (by show 20 + 2 * k + 2 ≤ _; omega) (by show 400 + 24 * k + 12 ≤ _; omega) (next σ' H2 ls ⟨⟨g1, hg1.trans hg, zFin (th := zth_ofC σ (ya xs ((k : Int) + 1)) (ya xs ((k : Int) + 2))) ((hR1.kept (fun q h1 h2 => hk2 q h1 (hA1 q h2).2.1))) e5 e6⟩, hRM2, hZ2, ⟨f1, hO1.kept (hk2 o (z_lt hO1) hAMo)⟩, by omega, fun q hq => (hk2 q (by omega) (fun z => by have := (hAM q z).1; omega)).trans (hk31 q hq)⟩ (lv_sub hl [2, 3, 4, 5, 6] rfl))

set_option maxRecDepth 100000 in
set_option maxHeartbeats 4000000 in
theorem law_why {p : Program} {e : Env} {s : State} {m : MethodId} {below : List Frame} {meth : Method} {c : Code} (l : Launch) {b L : Nat} {xs : Nat → Int32} {D : va_G} {cI cO cL : ClassId} {A : Nat → Prop} {eE mi : Nat} {sa : Nat → Nat} {x0 bm : Nat} {ma : Nat → Nat} {o h3 : Nat} {Q : State → Prop} (C0 : LC l p s m c b L xs D cI cO cL A eE mi sa bm ma o h3) (k : Nat) (hk : k + 5 ≤ L) {σ : zT} {H : Heap} {ls : Array Slot} (Z : LZ s D cI cO cL A eE x0 bm ma o h3 σ H) (hl : lv_has ls 7 [(0, .ref b), (1, .ref x0), (2, .ref bm), (3, .ref o), (4, .int (zI (k : Int)))]) (next : ∀ (σ : zT) (H : Heap) (ls : Array Slot), LZ s D cI cO cL A eE x0 bm ma o h3 σ H → lv_has ls 7 [(0, .ref b), (1, .ref x0), (2, .ref bm), (3, .ref o), (4, .int (zI (k : Int)))] → W p l e room_1 s m #[Value.ref b] below meth c H [] (20 + 2 * (k + 5)) (400 + 24 * (k + 5)) Q (F0 m 1285 ls [])) : W p l e room_1 s m #[Value.ref b] below meth c H [] (20 + 2 * k) (400 + 24 * k) Q (F0 m 925 ls []) := by
  obtain ⟨⟨hx, hb, hml, hown, hts⟩, ⟨hX, hbl, hL⟩, hK, hM, hfl, hpre, hA1, hAMo, hoo, hAM, hs3⟩ := C0
  obtain ⟨⟨g, hg, hR⟩, hRM, hZ, ⟨f0, hO⟩, hz3, hk3⟩ := Z
  have hs : s.heap.size ≤ H.size := by omega
  refine lv_aload_n hx hb dL_law_925 rfl (lv_at hl 1 rfl) ?_
  refine lv_aload_n hx hb dL_law_926 rfl (lv_at hl 0 rfl) ?_
  refine lv_iload hx hb dL_law_927 (lv_at hl 4 rfl) ?_
  refine z_iconst hx hb dL_law_929 ?_
  refine z_iadd hx hb dL_law_930 ?_
  refine z_sc hx hb hX hbl hL hs hk3 (by omega) dL_law_931 ?_
  refine lv_aload_n hx hb dL_law_932 rfl (lv_at hl 0 rfl) ?_
  refine lv_iload hx hb dL_law_933 (lv_at hl 4 rfl) ?_
  refine z_iconst hx hb dL_law_935 ?_
  refine z_iadd hx hb dL_law_936 ?_
  refine z_sc hx hb hX hbl hL hs hk3 (by omega) dL_law_937 ?_
  refine lv_aload_n hx hb dL_law_938 rfl (lv_at hl 3 rfl) ?_
  have hR0 : RX D cO A eE g (zup σ 0 0 0) H := hR.eq0 (fun k j hk => zup_t (fun q => hk (by rw [q]; rfl)))
  refine z_lS (As := [.ref x0, .int (zI (ya xs ((k : Int) + 1))), .int (zI (ya xs ((k : Int) + 2))), .ref o]) (rest := []) (P := zLP D cO cL A eE o g (zup σ 0 0 0) (zth_why (zup σ 0 0 0) (ya xs ((k : Int) + 1)) (ya xs ((k : Int) + 2))) ((zup σ 0 0 0)) (fun f => zth_why (zup σ 0 0 0) (ya xs ((k : Int) + 1)) (ya xs ((k : Int) + 2)) = 0 → f 0 = (zI (zan_why (zup σ 0 0 0) (ya xs ((k : Int) + 1)) (ya xs ((k : Int) + 2)))).toInt64)) ⟨hx, hb, hml, hown, hts⟩ (show zLM l yL_why wsL_why ({ frames := 8, cells := 3, slots := 18, locals := 138 }) D cI cO cL A eE mi sa o [.ref x0, .int (zI (ya xs ((k : Int) + 1))), .int (zI (ya xs ((k : Int) + 2))), .ref o] H _ by rw [← hg]; exact c_L_why l hfl D cI cO cL A eE mi sa o g (zup σ 0 0 0) H f0 hR0 (zAll_th hZ 0) hO (fun z => (hA1 o z).1 rfl) (ya xs ((k : Int) + 1)) (ya xs ((k : Int) + 2)) (⟨ya_r xs _, ya_r xs _⟩)) (vx_cwSW 4 hts gL_law_L_why rfl rfl rfl (by decide +kernel) ⟨(Nat.le_of_ble_eq_true rfl), (Nat.le_of_ble_eq_true rfl)⟩) (fun U hU hW => hpre U hW (by rw [hU]; exact hz3) (by rw [hU]; exact hk3)) rfl hl.1 rfl (Nat.le_of_ble_eq_true rfl) dL_law_939 ⟨by show 20 + 2 * k + 3 ≤ 601024; omega, by show 400 + 24 * k + 18 ≤ 7293033; omega⟩ (fun r1 H1 L1 hp1 hz1 hk1 hL1 => ?_)
  obtain ⟨e1, ⟨g1, hg1, hR1⟩, f1, hO1, hf1⟩ := hp1
  rw [e1]
  refine va_forget (fun q hq => by
    rcases List.mem_append.mp hq with z | z
    · cases z
    · rcases hL1 q z with w | w
      · exact (hA1 _ w).2.2
      · rw [w]; exact hoo.1) ?_
  have hs1 : s.heap.size ≤ H1.size := by omega
  have hk31 : ∀ q : Nat, q < s.heap.size → H1[q]? = s.heap[q]? := fun q hq => (hk1 q (by omega) (fun z => by
    rcases z with z | z
    · have := (hA1 q z).2.2; omega
    · omega)).trans (hk3 q hq)
  have hRM1 : RM D cI bm ma σ H1 := hRM.kept (fun q hq => hk1 q (by have := (hAM q hq).2; omega) (fun z => by
    rcases z with z | z
    · exact (hA1 q z).2.1 hq
    · rw [z] at hq; exact hAMo hq))
  refine lv_istore (lv' := [(5, .int (zI (zth_why (zup σ 0 0 0) (ya xs ((k : Int) + 1)) (ya xs ((k : Int) + 2))))), (0, .ref b), (1, .ref x0), (2, .ref bm), (3, .ref o), (4, .int (zI (k : Int)))]) hx hb dL_law_942 hl (by decide) rfl (fun ls hl => ?_)
  refine lv_aload_n hx hb dL_law_944 rfl (lv_at hl 3 rfl) ?_
  refine lv_aload_n hx hb dL_law_945 rfl (lv_at hl 1 rfl) ?_
  refine lv_iload hx hb dL_law_946 (lv_at hl 5 rfl) ?_
  refine z_iconst hx hb dL_law_948 ?_
  refine z_iadd hx hb dL_law_949 ?_
  refine z_sc hx hb hX hbl hL hs1 hk31 (by omega) dL_law_950 ?_
  refine lv_aload_n hx hb dL_law_951 rfl (lv_at hl 1 rfl) ?_
  refine lv_iload hx hb dL_law_952 (lv_at hl 5 rfl) ?_
  refine z_iconst hx hb dL_law_954 ?_
  refine z_iadd hx hb dL_law_955 ?_
  refine z_sc hx hb hX hbl hL hs1 hk31 (by omega) dL_law_956 ?_
  refine z_wmL (As := [.int (zI (ya xs ((k : Int) + 1))), .int (zI (ya xs ((k : Int) + 2)))]) (rest := []) ⟨hx, hb, hml, hown, hts⟩ (c_X5_why l D cI cO cL bm ma hM σ H1 hRM1 (ya xs ((k : Int) + 1)) (ya xs ((k : Int) + 2)) hZ.1 (ya_r xs _) (ya_r xs _)) (cwV 2 hts gL_law_X5_why rfl rfl rfl (by decide +kernel) ⟨(Nat.le_of_ble_eq_true rfl), (Nat.le_of_ble_eq_true rfl)⟩) hK (m_recv hK hRM1) rfl hl.1 rfl (Nat.le_of_ble_eq_true rfl) dL_law_957 ⟨by show 20 + 2 * k + 3 ≤ 601024; omega, by show 400 + 24 * k + 18 ≤ 7293033; omega⟩ (fun rv σ' H2 L2 hp2 hRM2 hz2 hk2 hL2 => ?_)
  refine va_forget (fun q hq => by
    rcases List.mem_append.mp hq with z | z
    · cases z
    · exact (hAM _ (hL2 q z)).1) ?_
  have ht : 0 ≤ zth_why σ (ya xs ((k : Int) + 1)) (ya xs ((k : Int) + 2)) ∧ zth_why σ (ya xs ((k : Int) + 1)) (ya xs ((k : Int) + 2)) ≤ 3 := by unfold zth_why; (repeat' split) <;> omega
  obtain ⟨z2, e2, e3, e4, e5, e6⟩ := zPost_x hp2 (show (zup σ 0 0 0) 0 0 = 0 from zup_s _ _ _ _)
  rw [e2]
  refine lv_istore (lv' := [(6, .int (zI z2)), (5, .int (zI (zth_why (zup σ 0 0 0) (ya xs ((k : Int) + 1)) (ya xs ((k : Int) + 2))))), (0, .ref b), (1, .ref x0), (2, .ref bm), (3, .ref o), (4, .int (zI (k : Int)))]) hx hb dL_law_960 hl (by decide) rfl (fun ls hl => ?_)
  refine lv_aload_n hx hb dL_law_962 rfl (lv_at hl 4 rfl) ?_
  refine z_cv (As := []) (rest := []) ⟨hx, hb, hml, hown, hts⟩ (c_X5_thrown l D cI cO cL bm ma σ' H2 hRM2) (cwV 0 hts gL_law_X5_thrown rfl rfl rfl (by decide +kernel) ⟨(Nat.le_of_ble_eq_true rfl), (Nat.le_of_ble_eq_true rfl)⟩) (zKK_mv D cI cO cL) (fun U _ hv => va_K.moved hv hK) (m_recv hK hRM2) rfl hl.1 rfl (Nat.le_of_ble_eq_true rfl) dL_law_963 ⟨by show 20 + 2 * k + 3 ≤ 601024; omega, by show 400 + 24 * k + 18 ≤ 7293033; omega⟩ (fun r3 hr3 => ?_)
  rw [hr3, e4]
  refine lv_iload hx hb dL_law_966 (lv_at hl 1 rfl) ?_
  refine z_top (b := zth_why σ (ya xs ((k : Int) + 1)) (ya xs ((k : Int) + 2))) rfl ?_
  refine z_icmp_eq (tgt := 973) hx hb dL_law_968 (by decide) (by omega) (fun _ => ?_) (fun c1 => absurd rfl c1)
  have hZ2 : zAll σ' := by
    by_cases z : zth_why σ (ya xs ((k : Int) + 1)) (ya xs ((k : Int) + 2)) = 0
    · rw [e5 z]; exact zAll_th hZ 0
    · rw [e6 z]; exact zAll_th hZ _
  refine lv_iload hx hb dL_law_973 (lv_at hl 1 rfl) ?_
  refine z_top (b := zth_why σ (ya xs ((k : Int) + 1)) (ya xs ((k : Int) + 2))) rfl ?_
  refine z_if_ne (tgt := 990) hx hb dL_law_975 (by decide) (by omega) (fun c1 => ?_) (fun c1 => ?_)
  · refine lv_goto (tgt := 1285) hx hb dL_law_990 (by decide) ?_
    exact W.widen (k := 20 + 2 * (k + 5)) (n := 400 + 24 * (k + 5)) (by show 20 + 2 * k + 3 ≤ _; omega) (by show 400 + 24 * k + 18 ≤ _; omega) (next σ' H2 ls ⟨⟨g1, hg1.trans hg, zFin (th := zth_why σ (ya xs ((k : Int) + 1)) (ya xs ((k : Int) + 2))) ((hR1.kept (fun q h1 h2 => hk2 q h1 (hA1 q h2).2.1))) e5 e6⟩, hRM2, hZ2, ⟨f1, hO1.kept (hk2 o (z_lt hO1) hAMo)⟩, by omega, fun q hq => (hk2 q (by omega) (fun z => by have := (hAM q z).1; omega)).trans (hk31 q hq)⟩ (lv_sub hl [2, 3, 4, 5, 6] rfl))
  refine lv_aload_n hx hb dL_law_978 rfl (lv_at hl 5 rfl) ?_
  refine z_iconst hx hb dL_law_979 ?_
  refine va_lald (ws := [(o, zOut cL f1)]) hx hb hK (z_P1 (hO1.kept (hk2 o (z_lt hO1) hAMo))) 0 2 rfl rfl (zI_in (n := 1) (by decide)) dL_law_980 ?_
  refine lv_iload hx hb dL_law_981 (lv_at hl 0 rfl) ?_
  refine lv_i2l hx hb dL_law_983 rfl ?_
  refine W.lcmp hx hb dL_law_984 ?_
  refine z_tov (w := .int (zI 0)) (by rw [show f1 (zI 0).toNatClampNeg = (zI z2).toInt64 by rw [show (zI 0).toNatClampNeg = 0 by decide, e3 c1]; exact hf1 c1, z_cmp_eq]) ?_
  refine z_if_eq (tgt := 990) hx hb dL_law_985 (by decide) (by decide) (fun _ => ?_) (fun c2 => absurd rfl c2)
  refine lv_goto (tgt := 1285) hx hb dL_law_990 (by decide) ?_
  exact W.widen (k := 20 + 2 * (k + 5)) (n := 400 + 24 * (k + 5)) (by show 20 + 2 * k + 3 ≤ _; omega) (by show 400 + 24 * k + 18 ≤ _; omega) (next σ' H2 ls ⟨⟨g1, hg1.trans hg, zFin (th := zth_why σ (ya xs ((k : Int) + 1)) (ya xs ((k : Int) + 2))) ((hR1.kept (fun q h1 h2 => hk2 q h1 (hA1 q h2).2.1))) e5 e6⟩, hRM2, hZ2, ⟨f1, hO1.kept (hk2 o (z_lt hO1) hAMo)⟩, by omega, fun q hq => (hk2 q (by omega) (fun z => by have := (hAM q z).1; omega)).trans (hk31 q hq)⟩ (lv_sub hl [2, 3, 4, 5, 6] rfl))

set_option maxRecDepth 100000 in
set_option maxHeartbeats 4000000 in
theorem law_rested {p : Program} {e : Env} {s : State} {m : MethodId} {below : List Frame} {meth : Method} {c : Code} (l : Launch) {b L : Nat} {xs : Nat → Int32} {D : va_G} {cI cO cL : ClassId} {A : Nat → Prop} {eE mi : Nat} {sa : Nat → Nat} {x0 bm : Nat} {ma : Nat → Nat} {o h3 : Nat} {Q : State → Prop} (C0 : LC l p s m c b L xs D cI cO cL A eE mi sa bm ma o h3) (k : Nat) (hk : k + 5 ≤ L) {σ : zT} {H : Heap} {ls : Array Slot} (Z : LZ s D cI cO cL A eE x0 bm ma o h3 σ H) (hl : lv_has ls 7 [(0, .ref b), (1, .ref x0), (2, .ref bm), (3, .ref o), (4, .int (zI (k : Int)))]) (next : ∀ (σ : zT) (H : Heap) (ls : Array Slot), LZ s D cI cO cL A eE x0 bm ma o h3 σ H → lv_has ls 7 [(0, .ref b), (1, .ref x0), (2, .ref bm), (3, .ref o), (4, .int (zI (k : Int)))] → W p l e room_1 s m #[Value.ref b] below meth c H [] (20 + 2 * (k + 5)) (400 + 24 * (k + 5)) Q (F0 m 1285 ls [])) : W p l e room_1 s m #[Value.ref b] below meth c H [] (20 + 2 * k) (400 + 24 * k) Q (F0 m 993 ls []) := by
  obtain ⟨⟨hx, hb, hml, hown, hts⟩, ⟨hX, hbl, hL⟩, hK, hM, hfl, hpre, hA1, hAMo, hoo, hAM, hs3⟩ := C0
  obtain ⟨⟨g, hg, hR⟩, hRM, hZ, ⟨f0, hO⟩, hz3, hk3⟩ := Z
  have hs : s.heap.size ≤ H.size := by omega
  refine lv_aload_n hx hb dL_law_993 rfl (lv_at hl 1 rfl) ?_
  refine lv_aload_n hx hb dL_law_994 rfl (lv_at hl 0 rfl) ?_
  refine lv_iload hx hb dL_law_995 (lv_at hl 4 rfl) ?_
  refine z_iconst hx hb dL_law_997 ?_
  refine z_iadd hx hb dL_law_998 ?_
  refine z_sc hx hb hX hbl hL hs hk3 (by omega) dL_law_999 ?_
  refine lv_aload_n hx hb dL_law_1000 rfl (lv_at hl 3 rfl) ?_
  have hR0 : RX D cO A eE g (zup σ 0 0 0) H := hR.eq0 (fun k j hk => zup_t (fun q => hk (by rw [q]; rfl)))
  refine z_lS (As := [.ref x0, .int (zI (ya xs ((k : Int) + 1))), .ref o]) (rest := []) (P := zLP D cO cL A eE o g (zup σ 0 0 0) (zth_pil (zup σ 0 0 0) (ya xs ((k : Int) + 1))) ((zup σ 0 0 0)) (fun f => zth_pil (zup σ 0 0 0) (ya xs ((k : Int) + 1)) = 0 → f 0 = (zI (zan_rested (zup σ 0 0 0) (ya xs ((k : Int) + 1)))).toInt64)) ⟨hx, hb, hml, hown, hts⟩ (show zLM l yL_rested wsL_rested ({ frames := 8, cells := 1, slots := 6, locals := 124 }) D cI cO cL A eE mi sa o [.ref x0, .int (zI (ya xs ((k : Int) + 1))), .ref o] H _ by rw [← hg]; exact c_L_rested l hfl D cI cO cL A eE mi sa o g (zup σ 0 0 0) H f0 hR0 (zAll_th hZ 0) hO (fun z => (hA1 o z).1 rfl) (ya xs ((k : Int) + 1)) (ya_r xs _)) (vx_cwSW 3 hts gL_law_L_rested rfl rfl rfl (by decide +kernel) ⟨(Nat.le_of_ble_eq_true rfl), (Nat.le_of_ble_eq_true rfl)⟩) (fun U hU hW => hpre U hW (by rw [hU]; exact hz3) (by rw [hU]; exact hk3)) rfl hl.1 rfl (Nat.le_of_ble_eq_true rfl) dL_law_1001 ⟨by show 20 + 2 * k + 1 ≤ 601024; omega, by show 400 + 24 * k + 6 ≤ 7293033; omega⟩ (fun r1 H1 L1 hp1 hz1 hk1 hL1 => ?_)
  obtain ⟨e1, ⟨g1, hg1, hR1⟩, f1, hO1, hf1⟩ := hp1
  rw [e1]
  refine va_forget (fun q hq => by
    rcases List.mem_append.mp hq with z | z
    · cases z
    · rcases hL1 q z with w | w
      · exact (hA1 _ w).2.2
      · rw [w]; exact hoo.1) ?_
  have hs1 : s.heap.size ≤ H1.size := by omega
  have hk31 : ∀ q : Nat, q < s.heap.size → H1[q]? = s.heap[q]? := fun q hq => (hk1 q (by omega) (fun z => by
    rcases z with z | z
    · have := (hA1 q z).2.2; omega
    · omega)).trans (hk3 q hq)
  have hRM1 : RM D cI bm ma σ H1 := hRM.kept (fun q hq => hk1 q (by have := (hAM q hq).2; omega) (fun z => by
    rcases z with z | z
    · exact (hA1 q z).2.1 hq
    · rw [z] at hq; exact hAMo hq))
  refine lv_istore (lv' := [(5, .int (zI (zth_pil (zup σ 0 0 0) (ya xs ((k : Int) + 1))))), (0, .ref b), (1, .ref x0), (2, .ref bm), (3, .ref o), (4, .int (zI (k : Int)))]) hx hb dL_law_1004 hl (by decide) rfl (fun ls hl => ?_)
  refine lv_aload_n hx hb dL_law_1006 rfl (lv_at hl 3 rfl) ?_
  refine lv_aload_n hx hb dL_law_1007 rfl (lv_at hl 1 rfl) ?_
  refine lv_iload hx hb dL_law_1008 (lv_at hl 5 rfl) ?_
  refine z_iconst hx hb dL_law_1010 ?_
  refine z_iadd hx hb dL_law_1011 ?_
  refine z_sc hx hb hX hbl hL hs1 hk31 (by omega) dL_law_1012 ?_
  refine z_wmL (As := [.int (zI (ya xs ((k : Int) + 1)))]) (rest := []) ⟨hx, hb, hml, hown, hts⟩ (c_X5_rested l D cI cO cL bm ma hM σ H1 hRM1 (ya xs ((k : Int) + 1)) hZ.1 (ya_r xs _)) (cwV 1 hts gL_law_X5_rested rfl rfl rfl (by decide +kernel) ⟨(Nat.le_of_ble_eq_true rfl), (Nat.le_of_ble_eq_true rfl)⟩) hK (m_recv hK hRM1) rfl hl.1 rfl (Nat.le_of_ble_eq_true rfl) dL_law_1013 ⟨by show 20 + 2 * k + 1 ≤ 601024; omega, by show 400 + 24 * k + 6 ≤ 7293033; omega⟩ (fun rv σ' H2 L2 hp2 hRM2 hz2 hk2 hL2 => ?_)
  refine va_forget (fun q hq => by
    rcases List.mem_append.mp hq with z | z
    · cases z
    · exact (hAM _ (hL2 q z)).1) ?_
  have ht : 0 ≤ zth_pil σ (ya xs ((k : Int) + 1)) ∧ zth_pil σ (ya xs ((k : Int) + 1)) ≤ 3 := by unfold zth_pil; (repeat' split) <;> omega
  obtain ⟨z2, e2, e3, e4, e5, e6⟩ := zPost_x hp2 (show (zup σ 0 0 0) 0 0 = 0 from zup_s _ _ _ _)
  rw [e2]
  refine lv_istore (lv' := [(6, .int (zI z2)), (5, .int (zI (zth_pil (zup σ 0 0 0) (ya xs ((k : Int) + 1))))), (0, .ref b), (1, .ref x0), (2, .ref bm), (3, .ref o), (4, .int (zI (k : Int)))]) hx hb dL_law_1016 hl (by decide) rfl (fun ls hl => ?_)
  refine lv_aload_n hx hb dL_law_1018 rfl (lv_at hl 4 rfl) ?_
  refine z_cv (As := []) (rest := []) ⟨hx, hb, hml, hown, hts⟩ (c_X5_thrown l D cI cO cL bm ma σ' H2 hRM2) (cwV 0 hts gL_law_X5_thrown rfl rfl rfl (by decide +kernel) ⟨(Nat.le_of_ble_eq_true rfl), (Nat.le_of_ble_eq_true rfl)⟩) (zKK_mv D cI cO cL) (fun U _ hv => va_K.moved hv hK) (m_recv hK hRM2) rfl hl.1 rfl (Nat.le_of_ble_eq_true rfl) dL_law_1019 ⟨by show 20 + 2 * k + 1 ≤ 601024; omega, by show 400 + 24 * k + 6 ≤ 7293033; omega⟩ (fun r3 hr3 => ?_)
  rw [hr3, e4]
  refine lv_iload hx hb dL_law_1022 (lv_at hl 1 rfl) ?_
  refine z_top (b := zth_pil σ (ya xs ((k : Int) + 1))) rfl ?_
  refine z_icmp_eq (tgt := 1029) hx hb dL_law_1024 (by decide) (by omega) (fun _ => ?_) (fun c1 => absurd rfl c1)
  have hZ2 : zAll σ' := by
    by_cases z : zth_pil σ (ya xs ((k : Int) + 1)) = 0
    · rw [e5 z]; exact zAll_th hZ 0
    · rw [e6 z]; exact zAll_th hZ _
  refine lv_iload hx hb dL_law_1029 (lv_at hl 1 rfl) ?_
  refine z_top (b := zth_pil σ (ya xs ((k : Int) + 1))) rfl ?_
  refine z_if_ne (tgt := 1046) hx hb dL_law_1031 (by decide) (by omega) (fun c1 => ?_) (fun c1 => ?_)
  · refine lv_goto (tgt := 1285) hx hb dL_law_1046 (by decide) ?_
    exact W.widen (k := 20 + 2 * (k + 5)) (n := 400 + 24 * (k + 5)) (by show 20 + 2 * k + 1 ≤ _; omega) (by show 400 + 24 * k + 6 ≤ _; omega) (next σ' H2 ls ⟨⟨g1, hg1.trans hg, zFin (th := zth_pil σ (ya xs ((k : Int) + 1))) ((hR1.kept (fun q h1 h2 => hk2 q h1 (hA1 q h2).2.1))) e5 e6⟩, hRM2, hZ2, ⟨f1, hO1.kept (hk2 o (z_lt hO1) hAMo)⟩, by omega, fun q hq => (hk2 q (by omega) (fun z => by have := (hAM q z).1; omega)).trans (hk31 q hq)⟩ (lv_sub hl [2, 3, 4, 5, 6] rfl))
  refine lv_aload_n hx hb dL_law_1034 rfl (lv_at hl 5 rfl) ?_
  refine z_iconst hx hb dL_law_1035 ?_
  refine va_lald (ws := [(o, zOut cL f1)]) hx hb hK (z_P1 (hO1.kept (hk2 o (z_lt hO1) hAMo))) 0 2 rfl rfl (zI_in (n := 1) (by decide)) dL_law_1036 ?_
  refine lv_iload hx hb dL_law_1037 (lv_at hl 0 rfl) ?_
  refine lv_i2l hx hb dL_law_1039 rfl ?_
  refine W.lcmp hx hb dL_law_1040 ?_
  refine z_tov (w := .int (zI 0)) (by rw [show f1 (zI 0).toNatClampNeg = (zI z2).toInt64 by rw [show (zI 0).toNatClampNeg = 0 by decide, e3 c1]; exact hf1 c1, z_cmp_eq]) ?_
  refine z_if_eq (tgt := 1046) hx hb dL_law_1041 (by decide) (by decide) (fun _ => ?_) (fun c2 => absurd rfl c2)
  refine lv_goto (tgt := 1285) hx hb dL_law_1046 (by decide) ?_
  exact W.widen (k := 20 + 2 * (k + 5)) (n := 400 + 24 * (k + 5)) (by show 20 + 2 * k + 1 ≤ _; omega) (by show 400 + 24 * k + 6 ≤ _; omega) (next σ' H2 ls ⟨⟨g1, hg1.trans hg, zFin (th := zth_pil σ (ya xs ((k : Int) + 1))) ((hR1.kept (fun q h1 h2 => hk2 q h1 (hA1 q h2).2.1))) e5 e6⟩, hRM2, hZ2, ⟨f1, hO1.kept (hk2 o (z_lt hO1) hAMo)⟩, by omega, fun q hq => (hk2 q (by omega) (fun z => by have := (hAM q z).1; omega)).trans (hk31 q hq)⟩ (lv_sub hl [2, 3, 4, 5, 6] rfl))

set_option maxRecDepth 100000 in
set_option maxHeartbeats 4000000 in
theorem law_restedAnew {p : Program} {e : Env} {s : State} {m : MethodId} {below : List Frame} {meth : Method} {c : Code} (l : Launch) {b L : Nat} {xs : Nat → Int32} {D : va_G} {cI cO cL : ClassId} {A : Nat → Prop} {eE mi : Nat} {sa : Nat → Nat} {x0 bm : Nat} {ma : Nat → Nat} {o h3 : Nat} {Q : State → Prop} (C0 : LC l p s m c b L xs D cI cO cL A eE mi sa bm ma o h3) (k : Nat) (hk : k + 5 ≤ L) {σ : zT} {H : Heap} {ls : Array Slot} (Z : LZ s D cI cO cL A eE x0 bm ma o h3 σ H) (hl : lv_has ls 7 [(0, .ref b), (1, .ref x0), (2, .ref bm), (3, .ref o), (4, .int (zI (k : Int)))]) (next : ∀ (σ : zT) (H : Heap) (ls : Array Slot), LZ s D cI cO cL A eE x0 bm ma o h3 σ H → lv_has ls 7 [(0, .ref b), (1, .ref x0), (2, .ref bm), (3, .ref o), (4, .int (zI (k : Int)))] → W p l e room_1 s m #[Value.ref b] below meth c H [] (20 + 2 * (k + 5)) (400 + 24 * (k + 5)) Q (F0 m 1285 ls [])) : W p l e room_1 s m #[Value.ref b] below meth c H [] (20 + 2 * k) (400 + 24 * k) Q (F0 m 1049 ls []) := by
  obtain ⟨⟨hx, hb, hml, hown, hts⟩, ⟨hX, hbl, hL⟩, hK, hM, hfl, hpre, hA1, hAMo, hoo, hAM, hs3⟩ := C0
  obtain ⟨⟨g, hg, hR⟩, hRM, hZ, ⟨f0, hO⟩, hz3, hk3⟩ := Z
  have hs : s.heap.size ≤ H.size := by omega
  refine lv_aload_n hx hb dL_law_1049 rfl (lv_at hl 1 rfl) ?_
  refine lv_aload_n hx hb dL_law_1050 rfl (lv_at hl 0 rfl) ?_
  refine lv_iload hx hb dL_law_1051 (lv_at hl 4 rfl) ?_
  refine z_iconst hx hb dL_law_1053 ?_
  refine z_iadd hx hb dL_law_1054 ?_
  refine z_sc hx hb hX hbl hL hs hk3 (by omega) dL_law_1055 ?_
  refine lv_aload_n hx hb dL_law_1056 rfl (lv_at hl 3 rfl) ?_
  have hR0 : RX D cO A eE g (zup σ 0 0 0) H := hR.eq0 (fun k j hk => zup_t (fun q => hk (by rw [q]; rfl)))
  refine z_lS (As := [.ref x0, .int (zI (ya xs ((k : Int) + 1))), .ref o]) (rest := []) (P := zLP D cO cL A eE o g (zup σ 0 0 0) (zth_pil (zup σ 0 0 0) (ya xs ((k : Int) + 1))) ((zup σ 0 0 0)) (fun f => zth_pil (zup σ 0 0 0) (ya xs ((k : Int) + 1)) = 0 → f 0 = (zI (zan_rested (zup σ 0 0 0) (ya xs ((k : Int) + 1)))).toInt64)) ⟨hx, hb, hml, hown, hts⟩ (show zLM l yL_restedAnew wsL_restedAnew ({ frames := 8, cells := 1, slots := 6, locals := 124 }) D cI cO cL A eE mi sa o [.ref x0, .int (zI (ya xs ((k : Int) + 1))), .ref o] H _ by rw [← hg]; exact c_L_restedAnew l hfl D cI cO cL A eE mi sa o g (zup σ 0 0 0) H f0 hR0 (zAll_th hZ 0) hO (fun z => (hA1 o z).1 rfl) (ya xs ((k : Int) + 1)) (ya_r xs _)) (vx_cwSW 3 hts gL_law_L_restedAnew rfl rfl rfl (by decide +kernel) ⟨(Nat.le_of_ble_eq_true rfl), (Nat.le_of_ble_eq_true rfl)⟩) (fun U hU hW => hpre U hW (by rw [hU]; exact hz3) (by rw [hU]; exact hk3)) rfl hl.1 rfl (Nat.le_of_ble_eq_true rfl) dL_law_1057 ⟨by show 20 + 2 * k + 1 ≤ 601024; omega, by show 400 + 24 * k + 6 ≤ 7293033; omega⟩ (fun r1 H1 L1 hp1 hz1 hk1 hL1 => ?_)
  obtain ⟨e1, ⟨g1, hg1, hR1⟩, f1, hO1, hf1⟩ := hp1
  rw [e1]
  refine va_forget (fun q hq => by
    rcases List.mem_append.mp hq with z | z
    · cases z
    · rcases hL1 q z with w | w
      · exact (hA1 _ w).2.2
      · rw [w]; exact hoo.1) ?_
  have hs1 : s.heap.size ≤ H1.size := by omega
  have hk31 : ∀ q : Nat, q < s.heap.size → H1[q]? = s.heap[q]? := fun q hq => (hk1 q (by omega) (fun z => by
    rcases z with z | z
    · have := (hA1 q z).2.2; omega
    · omega)).trans (hk3 q hq)
  have hRM1 : RM D cI bm ma σ H1 := hRM.kept (fun q hq => hk1 q (by have := (hAM q hq).2; omega) (fun z => by
    rcases z with z | z
    · exact (hA1 q z).2.1 hq
    · rw [z] at hq; exact hAMo hq))
  refine lv_istore (lv' := [(5, .int (zI (zth_pil (zup σ 0 0 0) (ya xs ((k : Int) + 1))))), (0, .ref b), (1, .ref x0), (2, .ref bm), (3, .ref o), (4, .int (zI (k : Int)))]) hx hb dL_law_1060 hl (by decide) rfl (fun ls hl => ?_)
  refine lv_aload_n hx hb dL_law_1062 rfl (lv_at hl 3 rfl) ?_
  refine lv_aload_n hx hb dL_law_1063 rfl (lv_at hl 1 rfl) ?_
  refine lv_iload hx hb dL_law_1064 (lv_at hl 5 rfl) ?_
  refine z_iconst hx hb dL_law_1066 ?_
  refine z_iadd hx hb dL_law_1067 ?_
  refine z_sc hx hb hX hbl hL hs1 hk31 (by omega) dL_law_1068 ?_
  refine z_wmL (As := [.int (zI (ya xs ((k : Int) + 1)))]) (rest := []) ⟨hx, hb, hml, hown, hts⟩ (c_X5_restedAnew l D cI cO cL bm ma hM σ H1 hRM1 (ya xs ((k : Int) + 1)) hZ.1 (ya_r xs _)) (cwV 1 hts gL_law_X5_restedAnew rfl rfl rfl (by decide +kernel) ⟨(Nat.le_of_ble_eq_true rfl), (Nat.le_of_ble_eq_true rfl)⟩) hK (m_recv hK hRM1) rfl hl.1 rfl (Nat.le_of_ble_eq_true rfl) dL_law_1069 ⟨by show 20 + 2 * k + 1 ≤ 601024; omega, by show 400 + 24 * k + 6 ≤ 7293033; omega⟩ (fun rv σ' H2 L2 hp2 hRM2 hz2 hk2 hL2 => ?_)
  refine va_forget (fun q hq => by
    rcases List.mem_append.mp hq with z | z
    · cases z
    · exact (hAM _ (hL2 q z)).1) ?_
  have ht : 0 ≤ zth_pil σ (ya xs ((k : Int) + 1)) ∧ zth_pil σ (ya xs ((k : Int) + 1)) ≤ 3 := by unfold zth_pil; (repeat' split) <;> omega
  obtain ⟨z2, e2, e3, e4, e5, e6⟩ := zPost_x hp2 (show (zup σ 0 0 0) 0 0 = 0 from zup_s _ _ _ _)
  rw [e2]
  refine lv_istore (lv' := [(6, .int (zI z2)), (5, .int (zI (zth_pil (zup σ 0 0 0) (ya xs ((k : Int) + 1))))), (0, .ref b), (1, .ref x0), (2, .ref bm), (3, .ref o), (4, .int (zI (k : Int)))]) hx hb dL_law_1072 hl (by decide) rfl (fun ls hl => ?_)
  refine lv_aload_n hx hb dL_law_1074 rfl (lv_at hl 4 rfl) ?_
  refine z_cv (As := []) (rest := []) ⟨hx, hb, hml, hown, hts⟩ (c_X5_thrown l D cI cO cL bm ma σ' H2 hRM2) (cwV 0 hts gL_law_X5_thrown rfl rfl rfl (by decide +kernel) ⟨(Nat.le_of_ble_eq_true rfl), (Nat.le_of_ble_eq_true rfl)⟩) (zKK_mv D cI cO cL) (fun U _ hv => va_K.moved hv hK) (m_recv hK hRM2) rfl hl.1 rfl (Nat.le_of_ble_eq_true rfl) dL_law_1075 ⟨by show 20 + 2 * k + 1 ≤ 601024; omega, by show 400 + 24 * k + 6 ≤ 7293033; omega⟩ (fun r3 hr3 => ?_)
  rw [hr3, e4]
  refine lv_iload hx hb dL_law_1078 (lv_at hl 1 rfl) ?_
  refine z_top (b := zth_pil σ (ya xs ((k : Int) + 1))) rfl ?_
  refine z_icmp_eq (tgt := 1085) hx hb dL_law_1080 (by decide) (by omega) (fun _ => ?_) (fun c1 => absurd rfl c1)
  have hZ2 : zAll σ' := by
    by_cases z : zth_pil σ (ya xs ((k : Int) + 1)) = 0
    · rw [e5 z]; exact zAll_th hZ 0
    · rw [e6 z]; exact zAll_th hZ _
  refine lv_iload hx hb dL_law_1085 (lv_at hl 1 rfl) ?_
  refine z_top (b := zth_pil σ (ya xs ((k : Int) + 1))) rfl ?_
  refine z_if_ne (tgt := 1102) hx hb dL_law_1087 (by decide) (by omega) (fun c1 => ?_) (fun c1 => ?_)
  · refine lv_goto (tgt := 1285) hx hb dL_law_1102 (by decide) ?_
    exact W.widen (k := 20 + 2 * (k + 5)) (n := 400 + 24 * (k + 5)) (by show 20 + 2 * k + 1 ≤ _; omega) (by show 400 + 24 * k + 6 ≤ _; omega) (next σ' H2 ls ⟨⟨g1, hg1.trans hg, zFin (th := zth_pil σ (ya xs ((k : Int) + 1))) ((hR1.kept (fun q h1 h2 => hk2 q h1 (hA1 q h2).2.1))) e5 e6⟩, hRM2, hZ2, ⟨f1, hO1.kept (hk2 o (z_lt hO1) hAMo)⟩, by omega, fun q hq => (hk2 q (by omega) (fun z => by have := (hAM q z).1; omega)).trans (hk31 q hq)⟩ (lv_sub hl [2, 3, 4, 5, 6] rfl))
  refine lv_aload_n hx hb dL_law_1090 rfl (lv_at hl 5 rfl) ?_
  refine z_iconst hx hb dL_law_1091 ?_
  refine va_lald (ws := [(o, zOut cL f1)]) hx hb hK (z_P1 (hO1.kept (hk2 o (z_lt hO1) hAMo))) 0 2 rfl rfl (zI_in (n := 1) (by decide)) dL_law_1092 ?_
  refine lv_iload hx hb dL_law_1093 (lv_at hl 0 rfl) ?_
  refine lv_i2l hx hb dL_law_1095 rfl ?_
  refine W.lcmp hx hb dL_law_1096 ?_
  refine z_tov (w := .int (zI 0)) (by rw [show f1 (zI 0).toNatClampNeg = (zI z2).toInt64 by rw [show (zI 0).toNatClampNeg = 0 by decide, e3 c1]; exact hf1 c1, z_cmp_eq]) ?_
  refine z_if_eq (tgt := 1102) hx hb dL_law_1097 (by decide) (by decide) (fun _ => ?_) (fun c2 => absurd rfl c2)
  refine lv_goto (tgt := 1285) hx hb dL_law_1102 (by decide) ?_
  exact W.widen (k := 20 + 2 * (k + 5)) (n := 400 + 24 * (k + 5)) (by show 20 + 2 * k + 1 ≤ _; omega) (by show 400 + 24 * k + 6 ≤ _; omega) (next σ' H2 ls ⟨⟨g1, hg1.trans hg, zFin (th := zth_pil σ (ya xs ((k : Int) + 1))) ((hR1.kept (fun q h1 h2 => hk2 q h1 (hA1 q h2).2.1))) e5 e6⟩, hRM2, hZ2, ⟨f1, hO1.kept (hk2 o (z_lt hO1) hAMo)⟩, by omega, fun q hq => (hk2 q (by omega) (fun z => by have := (hAM q z).1; omega)).trans (hk31 q hq)⟩ (lv_sub hl [2, 3, 4, 5, 6] rfl))

set_option maxRecDepth 100000 in
set_option maxHeartbeats 4000000 in
theorem law_bill {p : Program} {e : Env} {s : State} {m : MethodId} {below : List Frame} {meth : Method} {c : Code} (l : Launch) {b L : Nat} {xs : Nat → Int32} {D : va_G} {cI cO cL : ClassId} {A : Nat → Prop} {eE mi : Nat} {sa : Nat → Nat} {x0 bm : Nat} {ma : Nat → Nat} {o h3 : Nat} {Q : State → Prop} (C0 : LC l p s m c b L xs D cI cO cL A eE mi sa bm ma o h3) (k : Nat) (hk : k + 5 ≤ L) {σ : zT} {H : Heap} {ls : Array Slot} (Z : LZ s D cI cO cL A eE x0 bm ma o h3 σ H) (hl : lv_has ls 7 [(0, .ref b), (1, .ref x0), (2, .ref bm), (3, .ref o), (4, .int (zI (k : Int)))]) (next : ∀ (σ : zT) (H : Heap) (ls : Array Slot), LZ s D cI cO cL A eE x0 bm ma o h3 σ H → lv_has ls 7 [(0, .ref b), (1, .ref x0), (2, .ref bm), (3, .ref o), (4, .int (zI (k : Int)))] → W p l e room_1 s m #[Value.ref b] below meth c H [] (20 + 2 * (k + 5)) (400 + 24 * (k + 5)) Q (F0 m 1285 ls [])) : W p l e room_1 s m #[Value.ref b] below meth c H [] (20 + 2 * k) (400 + 24 * k) Q (F0 m 1105 ls []) := by
  obtain ⟨⟨hx, hb, hml, hown, hts⟩, ⟨hX, hbl, hL⟩, hK, hM, hfl, hpre, hA1, hAMo, hoo, hAM, hs3⟩ := C0
  obtain ⟨⟨g, hg, hR⟩, hRM, hZ, ⟨f0, hO⟩, hz3, hk3⟩ := Z
  have hs : s.heap.size ≤ H.size := by omega
  refine lv_aload_n hx hb dL_law_1105 rfl (lv_at hl 1 rfl) ?_
  refine lv_aload_n hx hb dL_law_1106 rfl (lv_at hl 0 rfl) ?_
  refine lv_iload hx hb dL_law_1107 (lv_at hl 4 rfl) ?_
  refine z_iconst hx hb dL_law_1109 ?_
  refine z_iadd hx hb dL_law_1110 ?_
  refine z_sc hx hb hX hbl hL hs hk3 (by omega) dL_law_1111 ?_
  refine lv_aload_n hx hb dL_law_1112 rfl (lv_at hl 3 rfl) ?_
  have hR0 : RX D cO A eE g (zup σ 0 0 0) H := hR.eq0 (fun k j hk => zup_t (fun q => hk (by rw [q]; rfl)))
  refine z_lS (As := [.ref x0, .int (zI (ya xs ((k : Int) + 1))), .ref o]) (rest := []) (P := zLP D cO cL A eE o g (zup σ 0 0 0) (zth_bill (zup σ 0 0 0) (ya xs ((k : Int) + 1))) ((zup σ 0 0 0)) (fun f => zth_bill (zup σ 0 0 0) (ya xs ((k : Int) + 1)) = 0 → f 0 = (zI ((zup σ 0 0 0) 10 (ya xs ((k : Int) + 1)))).toInt64)) ⟨hx, hb, hml, hown, hts⟩ (show zLM l yL_bill wsL_bill ({ frames := 8, cells := 1, slots := 6, locals := 124 }) D cI cO cL A eE mi sa o [.ref x0, .int (zI (ya xs ((k : Int) + 1))), .ref o] H _ by rw [← hg]; exact c_L_bill l hfl D cI cO cL A eE mi sa o g (zup σ 0 0 0) H f0 hR0 (zAll_th hZ 0) hO (fun z => (hA1 o z).1 rfl) (ya xs ((k : Int) + 1)) (ya_r xs _)) (vx_cwSW 3 hts gL_law_L_bill rfl rfl rfl (by decide +kernel) ⟨(Nat.le_of_ble_eq_true rfl), (Nat.le_of_ble_eq_true rfl)⟩) (fun U hU hW => hpre U hW (by rw [hU]; exact hz3) (by rw [hU]; exact hk3)) rfl hl.1 rfl (Nat.le_of_ble_eq_true rfl) dL_law_1113 ⟨by show 20 + 2 * k + 1 ≤ 601024; omega, by show 400 + 24 * k + 6 ≤ 7293033; omega⟩ (fun r1 H1 L1 hp1 hz1 hk1 hL1 => ?_)
  obtain ⟨e1, ⟨g1, hg1, hR1⟩, f1, hO1, hf1⟩ := hp1
  rw [e1]
  refine va_forget (fun q hq => by
    rcases List.mem_append.mp hq with z | z
    · cases z
    · rcases hL1 q z with w | w
      · exact (hA1 _ w).2.2
      · rw [w]; exact hoo.1) ?_
  have hs1 : s.heap.size ≤ H1.size := by omega
  have hk31 : ∀ q : Nat, q < s.heap.size → H1[q]? = s.heap[q]? := fun q hq => (hk1 q (by omega) (fun z => by
    rcases z with z | z
    · have := (hA1 q z).2.2; omega
    · omega)).trans (hk3 q hq)
  have hRM1 : RM D cI bm ma σ H1 := hRM.kept (fun q hq => hk1 q (by have := (hAM q hq).2; omega) (fun z => by
    rcases z with z | z
    · exact (hA1 q z).2.1 hq
    · rw [z] at hq; exact hAMo hq))
  refine lv_istore (lv' := [(5, .int (zI (zth_bill (zup σ 0 0 0) (ya xs ((k : Int) + 1))))), (0, .ref b), (1, .ref x0), (2, .ref bm), (3, .ref o), (4, .int (zI (k : Int)))]) hx hb dL_law_1116 hl (by decide) rfl (fun ls hl => ?_)
  refine lv_aload_n hx hb dL_law_1118 rfl (lv_at hl 3 rfl) ?_
  refine lv_aload_n hx hb dL_law_1119 rfl (lv_at hl 1 rfl) ?_
  refine lv_iload hx hb dL_law_1120 (lv_at hl 5 rfl) ?_
  refine z_iconst hx hb dL_law_1122 ?_
  refine z_iadd hx hb dL_law_1123 ?_
  refine z_sc hx hb hX hbl hL hs1 hk31 (by omega) dL_law_1124 ?_
  refine z_wmL (As := [.int (zI (ya xs ((k : Int) + 1)))]) (rest := []) ⟨hx, hb, hml, hown, hts⟩ (c_X5_bill l D cI cO cL bm ma hM σ H1 hRM1 (ya xs ((k : Int) + 1)) hZ.1 (ya_r xs _)) (cwV 1 hts gL_law_X5_bill rfl rfl rfl (by decide +kernel) ⟨(Nat.le_of_ble_eq_true rfl), (Nat.le_of_ble_eq_true rfl)⟩) hK (m_recv hK hRM1) rfl hl.1 rfl (Nat.le_of_ble_eq_true rfl) dL_law_1125 ⟨by show 20 + 2 * k + 1 ≤ 601024; omega, by show 400 + 24 * k + 6 ≤ 7293033; omega⟩ (fun rv σ' H2 L2 hp2 hRM2 hz2 hk2 hL2 => ?_)
  refine va_forget (fun q hq => by
    rcases List.mem_append.mp hq with z | z
    · cases z
    · exact (hAM _ (hL2 q z)).1) ?_
  have ht : 0 ≤ zth_bill σ (ya xs ((k : Int) + 1)) ∧ zth_bill σ (ya xs ((k : Int) + 1)) ≤ 3 := by unfold zth_bill; (repeat' split) <;> omega
  obtain ⟨z2, e2, e3, e4, e5, e6⟩ := zPost_x hp2 (show (zup σ 0 0 0) 0 0 = 0 from zup_s _ _ _ _)
  rw [e2]
  refine lv_istore (lv' := [(6, .int (zI z2)), (5, .int (zI (zth_bill (zup σ 0 0 0) (ya xs ((k : Int) + 1))))), (0, .ref b), (1, .ref x0), (2, .ref bm), (3, .ref o), (4, .int (zI (k : Int)))]) hx hb dL_law_1128 hl (by decide) rfl (fun ls hl => ?_)
  refine lv_aload_n hx hb dL_law_1130 rfl (lv_at hl 4 rfl) ?_
  refine z_cv (As := []) (rest := []) ⟨hx, hb, hml, hown, hts⟩ (c_X5_thrown l D cI cO cL bm ma σ' H2 hRM2) (cwV 0 hts gL_law_X5_thrown rfl rfl rfl (by decide +kernel) ⟨(Nat.le_of_ble_eq_true rfl), (Nat.le_of_ble_eq_true rfl)⟩) (zKK_mv D cI cO cL) (fun U _ hv => va_K.moved hv hK) (m_recv hK hRM2) rfl hl.1 rfl (Nat.le_of_ble_eq_true rfl) dL_law_1131 ⟨by show 20 + 2 * k + 1 ≤ 601024; omega, by show 400 + 24 * k + 6 ≤ 7293033; omega⟩ (fun r3 hr3 => ?_)
  rw [hr3, e4]
  refine lv_iload hx hb dL_law_1134 (lv_at hl 1 rfl) ?_
  refine z_top (b := zth_bill σ (ya xs ((k : Int) + 1))) rfl ?_
  refine z_icmp_eq (tgt := 1141) hx hb dL_law_1136 (by decide) (by omega) (fun _ => ?_) (fun c1 => absurd rfl c1)
  have hZ2 : zAll σ' := by
    by_cases z : zth_bill σ (ya xs ((k : Int) + 1)) = 0
    · rw [e5 z]; exact zAll_th hZ 0
    · rw [e6 z]; exact zAll_th hZ _
  refine lv_iload hx hb dL_law_1141 (lv_at hl 1 rfl) ?_
  refine z_top (b := zth_bill σ (ya xs ((k : Int) + 1))) rfl ?_
  refine z_if_ne (tgt := 1158) hx hb dL_law_1143 (by decide) (by omega) (fun c1 => ?_) (fun c1 => ?_)
  · refine lv_goto (tgt := 1285) hx hb dL_law_1158 (by decide) ?_
    exact W.widen (k := 20 + 2 * (k + 5)) (n := 400 + 24 * (k + 5)) (by show 20 + 2 * k + 1 ≤ _; omega) (by show 400 + 24 * k + 6 ≤ _; omega) (next σ' H2 ls ⟨⟨g1, hg1.trans hg, zFin (th := zth_bill σ (ya xs ((k : Int) + 1))) ((hR1.kept (fun q h1 h2 => hk2 q h1 (hA1 q h2).2.1))) e5 e6⟩, hRM2, hZ2, ⟨f1, hO1.kept (hk2 o (z_lt hO1) hAMo)⟩, by omega, fun q hq => (hk2 q (by omega) (fun z => by have := (hAM q z).1; omega)).trans (hk31 q hq)⟩ (lv_sub hl [2, 3, 4, 5, 6] rfl))
  refine lv_aload_n hx hb dL_law_1146 rfl (lv_at hl 5 rfl) ?_
  refine z_iconst hx hb dL_law_1147 ?_
  refine va_lald (ws := [(o, zOut cL f1)]) hx hb hK (z_P1 (hO1.kept (hk2 o (z_lt hO1) hAMo))) 0 2 rfl rfl (zI_in (n := 1) (by decide)) dL_law_1148 ?_
  refine lv_iload hx hb dL_law_1149 (lv_at hl 0 rfl) ?_
  refine lv_i2l hx hb dL_law_1151 rfl ?_
  refine W.lcmp hx hb dL_law_1152 ?_
  refine z_tov (w := .int (zI 0)) (by rw [show f1 (zI 0).toNatClampNeg = (zI z2).toInt64 by rw [show (zI 0).toNatClampNeg = 0 by decide, e3 c1]; exact hf1 c1, z_cmp_eq]) ?_
  refine z_if_eq (tgt := 1158) hx hb dL_law_1153 (by decide) (by decide) (fun _ => ?_) (fun c2 => absurd rfl c2)
  refine lv_goto (tgt := 1285) hx hb dL_law_1158 (by decide) ?_
  exact W.widen (k := 20 + 2 * (k + 5)) (n := 400 + 24 * (k + 5)) (by show 20 + 2 * k + 1 ≤ _; omega) (by show 400 + 24 * k + 6 ≤ _; omega) (next σ' H2 ls ⟨⟨g1, hg1.trans hg, zFin (th := zth_bill σ (ya xs ((k : Int) + 1))) ((hR1.kept (fun q h1 h2 => hk2 q h1 (hA1 q h2).2.1))) e5 e6⟩, hRM2, hZ2, ⟨f1, hO1.kept (hk2 o (z_lt hO1) hAMo)⟩, by omega, fun q hq => (hk2 q (by omega) (fun z => by have := (hAM q z).1; omega)).trans (hk31 q hq)⟩ (lv_sub hl [2, 3, 4, 5, 6] rfl))

set_option maxRecDepth 100000 in
set_option maxHeartbeats 4000000 in
theorem law_ofPilot {p : Program} {e : Env} {s : State} {m : MethodId} {below : List Frame} {meth : Method} {c : Code} (l : Launch) {b L : Nat} {xs : Nat → Int32} {D : va_G} {cI cO cL : ClassId} {A : Nat → Prop} {eE mi : Nat} {sa : Nat → Nat} {x0 bm : Nat} {ma : Nat → Nat} {o h3 : Nat} {Q : State → Prop} (C0 : LC l p s m c b L xs D cI cO cL A eE mi sa bm ma o h3) (k : Nat) (hk : k + 5 ≤ L) {σ : zT} {H : Heap} {ls : Array Slot} (Z : LZ s D cI cO cL A eE x0 bm ma o h3 σ H) (hl : lv_has ls 7 [(0, .ref b), (1, .ref x0), (2, .ref bm), (3, .ref o), (4, .int (zI (k : Int)))]) (next : ∀ (σ : zT) (H : Heap) (ls : Array Slot), LZ s D cI cO cL A eE x0 bm ma o h3 σ H → lv_has ls 7 [(0, .ref b), (1, .ref x0), (2, .ref bm), (3, .ref o), (4, .int (zI (k : Int)))] → W p l e room_1 s m #[Value.ref b] below meth c H [] (20 + 2 * (k + 5)) (400 + 24 * (k + 5)) Q (F0 m 1285 ls [])) : W p l e room_1 s m #[Value.ref b] below meth c H [] (20 + 2 * k) (400 + 24 * k) Q (F0 m 1161 ls []) := by
  obtain ⟨⟨hx, hb, hml, hown, hts⟩, ⟨hX, hbl, hL⟩, hK, hM, hfl, hpre, hA1, hAMo, hoo, hAM, hs3⟩ := C0
  obtain ⟨⟨g, hg, hR⟩, hRM, hZ, ⟨f0, hO⟩, hz3, hk3⟩ := Z
  have hs : s.heap.size ≤ H.size := by omega
  refine lv_aload_n hx hb dL_law_1161 rfl (lv_at hl 1 rfl) ?_
  refine lv_aload_n hx hb dL_law_1162 rfl (lv_at hl 0 rfl) ?_
  refine lv_iload hx hb dL_law_1163 (lv_at hl 4 rfl) ?_
  refine z_iconst hx hb dL_law_1165 ?_
  refine z_iadd hx hb dL_law_1166 ?_
  refine z_sc hx hb hX hbl hL hs hk3 (by omega) dL_law_1167 ?_
  refine lv_aload_n hx hb dL_law_1168 rfl (lv_at hl 0 rfl) ?_
  refine lv_iload hx hb dL_law_1169 (lv_at hl 4 rfl) ?_
  refine z_iconst hx hb dL_law_1171 ?_
  refine z_iadd hx hb dL_law_1172 ?_
  refine z_sc hx hb hX hbl hL hs hk3 (by omega) dL_law_1173 ?_
  refine lv_aload_n hx hb dL_law_1174 rfl (lv_at hl 3 rfl) ?_
  have hR0 : RX D cO A eE g (zup σ 0 0 0) H := hR.eq0 (fun k j hk => zup_t (fun q => hk (by rw [q]; rfl)))
  refine z_lS (As := [.ref x0, .int (zI (ya xs ((k : Int) + 1))), .int (zI (ya xs ((k : Int) + 2))), .ref o]) (rest := []) (P := zLP D cO cL A eE o g (zup σ 0 0 0) (zth_ofP (zup σ 0 0 0) (ya xs ((k : Int) + 1)) (ya xs ((k : Int) + 2))) ((zup σ 0 0 0)) (fun f => zth_ofP (zup σ 0 0 0) (ya xs ((k : Int) + 1)) (ya xs ((k : Int) + 2)) = 0 → f 0 = (zI (zan_ofP (zup σ 0 0 0) (ya xs ((k : Int) + 1)) (ya xs ((k : Int) + 2)))).toInt64)) ⟨hx, hb, hml, hown, hts⟩ (show zLM l yL_ofPilot wsL_ofPilot ({ frames := 8, cells := 2, slots := 12, locals := 126 }) D cI cO cL A eE mi sa o [.ref x0, .int (zI (ya xs ((k : Int) + 1))), .int (zI (ya xs ((k : Int) + 2))), .ref o] H _ by rw [← hg]; exact c_L_ofPilot l hfl D cI cO cL A eE mi sa o g (zup σ 0 0 0) H f0 hR0 (zAll_th hZ 0) hO (fun z => (hA1 o z).1 rfl) (ya xs ((k : Int) + 1)) (ya xs ((k : Int) + 2)) (⟨ya_r xs _, ya_r xs _⟩)) (vx_cwSW 4 hts gL_law_L_ofPilot rfl rfl rfl (by decide +kernel) ⟨(Nat.le_of_ble_eq_true rfl), (Nat.le_of_ble_eq_true rfl)⟩) (fun U hU hW => hpre U hW (by rw [hU]; exact hz3) (by rw [hU]; exact hk3)) rfl hl.1 rfl (Nat.le_of_ble_eq_true rfl) dL_law_1175 ⟨by show 20 + 2 * k + 2 ≤ 601024; omega, by show 400 + 24 * k + 12 ≤ 7293033; omega⟩ (fun r1 H1 L1 hp1 hz1 hk1 hL1 => ?_)
  obtain ⟨e1, ⟨g1, hg1, hR1⟩, f1, hO1, hf1⟩ := hp1
  rw [e1]
  refine va_forget (fun q hq => by
    rcases List.mem_append.mp hq with z | z
    · cases z
    · rcases hL1 q z with w | w
      · exact (hA1 _ w).2.2
      · rw [w]; exact hoo.1) ?_
  have hs1 : s.heap.size ≤ H1.size := by omega
  have hk31 : ∀ q : Nat, q < s.heap.size → H1[q]? = s.heap[q]? := fun q hq => (hk1 q (by omega) (fun z => by
    rcases z with z | z
    · have := (hA1 q z).2.2; omega
    · omega)).trans (hk3 q hq)
  have hRM1 : RM D cI bm ma σ H1 := hRM.kept (fun q hq => hk1 q (by have := (hAM q hq).2; omega) (fun z => by
    rcases z with z | z
    · exact (hA1 q z).2.1 hq
    · rw [z] at hq; exact hAMo hq))
  refine lv_istore (lv' := [(5, .int (zI (zth_ofP (zup σ 0 0 0) (ya xs ((k : Int) + 1)) (ya xs ((k : Int) + 2))))), (0, .ref b), (1, .ref x0), (2, .ref bm), (3, .ref o), (4, .int (zI (k : Int)))]) hx hb dL_law_1178 hl (by decide) rfl (fun ls hl => ?_)
  refine lv_aload_n hx hb dL_law_1180 rfl (lv_at hl 3 rfl) ?_
  refine lv_aload_n hx hb dL_law_1181 rfl (lv_at hl 1 rfl) ?_
  refine lv_iload hx hb dL_law_1182 (lv_at hl 5 rfl) ?_
  refine z_iconst hx hb dL_law_1184 ?_
  refine z_iadd hx hb dL_law_1185 ?_
  refine z_sc hx hb hX hbl hL hs1 hk31 (by omega) dL_law_1186 ?_
  refine lv_aload_n hx hb dL_law_1187 rfl (lv_at hl 1 rfl) ?_
  refine lv_iload hx hb dL_law_1188 (lv_at hl 5 rfl) ?_
  refine z_iconst hx hb dL_law_1190 ?_
  refine z_iadd hx hb dL_law_1191 ?_
  refine z_sc hx hb hX hbl hL hs1 hk31 (by omega) dL_law_1192 ?_
  refine z_wmL (As := [.int (zI (ya xs ((k : Int) + 1))), .int (zI (ya xs ((k : Int) + 2)))]) (rest := []) ⟨hx, hb, hml, hown, hts⟩ (c_X5_ofPilot l D cI cO cL bm ma hM σ H1 hRM1 (ya xs ((k : Int) + 1)) (ya xs ((k : Int) + 2)) hZ.1 (ya_r xs _) (ya_r xs _)) (cwV 2 hts gL_law_X5_ofPilot rfl rfl rfl (by decide +kernel) ⟨(Nat.le_of_ble_eq_true rfl), (Nat.le_of_ble_eq_true rfl)⟩) hK (m_recv hK hRM1) rfl hl.1 rfl (Nat.le_of_ble_eq_true rfl) dL_law_1193 ⟨by show 20 + 2 * k + 2 ≤ 601024; omega, by show 400 + 24 * k + 12 ≤ 7293033; omega⟩ (fun rv σ' H2 L2 hp2 hRM2 hz2 hk2 hL2 => ?_)
  refine va_forget (fun q hq => by
    rcases List.mem_append.mp hq with z | z
    · cases z
    · exact (hAM _ (hL2 q z)).1) ?_
  have ht : 0 ≤ zth_ofP σ (ya xs ((k : Int) + 1)) (ya xs ((k : Int) + 2)) ∧ zth_ofP σ (ya xs ((k : Int) + 1)) (ya xs ((k : Int) + 2)) ≤ 3 := by unfold zth_ofP; (repeat' split) <;> omega
  obtain ⟨z2, e2, e3, e4, e5, e6⟩ := zPost_x hp2 (show (zup σ 0 0 0) 0 0 = 0 from zup_s _ _ _ _)
  rw [e2]
  refine lv_istore (lv' := [(6, .int (zI z2)), (5, .int (zI (zth_ofP (zup σ 0 0 0) (ya xs ((k : Int) + 1)) (ya xs ((k : Int) + 2))))), (0, .ref b), (1, .ref x0), (2, .ref bm), (3, .ref o), (4, .int (zI (k : Int)))]) hx hb dL_law_1196 hl (by decide) rfl (fun ls hl => ?_)
  refine lv_aload_n hx hb dL_law_1198 rfl (lv_at hl 4 rfl) ?_
  refine z_cv (As := []) (rest := []) ⟨hx, hb, hml, hown, hts⟩ (c_X5_thrown l D cI cO cL bm ma σ' H2 hRM2) (cwV 0 hts gL_law_X5_thrown rfl rfl rfl (by decide +kernel) ⟨(Nat.le_of_ble_eq_true rfl), (Nat.le_of_ble_eq_true rfl)⟩) (zKK_mv D cI cO cL) (fun U _ hv => va_K.moved hv hK) (m_recv hK hRM2) rfl hl.1 rfl (Nat.le_of_ble_eq_true rfl) dL_law_1199 ⟨by show 20 + 2 * k + 2 ≤ 601024; omega, by show 400 + 24 * k + 12 ≤ 7293033; omega⟩ (fun r3 hr3 => ?_)
  rw [hr3, e4]
  refine lv_iload hx hb dL_law_1202 (lv_at hl 1 rfl) ?_
  refine z_top (b := zth_ofP σ (ya xs ((k : Int) + 1)) (ya xs ((k : Int) + 2))) rfl ?_
  refine z_icmp_eq (tgt := 1209) hx hb dL_law_1204 (by decide) (by omega) (fun _ => ?_) (fun c1 => absurd rfl c1)
  have hZ2 : zAll σ' := by
    by_cases z : zth_ofP σ (ya xs ((k : Int) + 1)) (ya xs ((k : Int) + 2)) = 0
    · rw [e5 z]; exact zAll_th hZ 0
    · rw [e6 z]; exact zAll_th hZ _
  refine lv_iload hx hb dL_law_1209 (lv_at hl 1 rfl) ?_
  refine z_top (b := zth_ofP σ (ya xs ((k : Int) + 1)) (ya xs ((k : Int) + 2))) rfl ?_
  refine z_if_ne (tgt := 1226) hx hb dL_law_1211 (by decide) (by omega) (fun c1 => ?_) (fun c1 => ?_)
  · refine lv_goto (tgt := 1285) hx hb dL_law_1226 (by decide) ?_
    exact W.widen (k := 20 + 2 * (k + 5)) (n := 400 + 24 * (k + 5)) (by show 20 + 2 * k + 2 ≤ _; omega) (by show 400 + 24 * k + 12 ≤ _; omega) (next σ' H2 ls ⟨⟨g1, hg1.trans hg, zFin (th := zth_ofP σ (ya xs ((k : Int) + 1)) (ya xs ((k : Int) + 2))) ((hR1.kept (fun q h1 h2 => hk2 q h1 (hA1 q h2).2.1))) e5 e6⟩, hRM2, hZ2, ⟨f1, hO1.kept (hk2 o (z_lt hO1) hAMo)⟩, by omega, fun q hq => (hk2 q (by omega) (fun z => by have := (hAM q z).1; omega)).trans (hk31 q hq)⟩ (lv_sub hl [2, 3, 4, 5, 6] rfl))
  refine lv_aload_n hx hb dL_law_1214 rfl (lv_at hl 5 rfl) ?_
  refine z_iconst hx hb dL_law_1215 ?_
  refine va_lald (ws := [(o, zOut cL f1)]) hx hb hK (z_P1 (hO1.kept (hk2 o (z_lt hO1) hAMo))) 0 2 rfl rfl (zI_in (n := 1) (by decide)) dL_law_1216 ?_
  refine lv_iload hx hb dL_law_1217 (lv_at hl 0 rfl) ?_
  refine lv_i2l hx hb dL_law_1219 rfl ?_
  refine W.lcmp hx hb dL_law_1220 ?_
  refine z_tov (w := .int (zI 0)) (by rw [show f1 (zI 0).toNatClampNeg = (zI z2).toInt64 by rw [show (zI 0).toNatClampNeg = 0 by decide, e3 c1]; exact hf1 c1, z_cmp_eq]) ?_
  refine z_if_eq (tgt := 1226) hx hb dL_law_1221 (by decide) (by decide) (fun _ => ?_) (fun c2 => absurd rfl c2)
  refine lv_goto (tgt := 1285) hx hb dL_law_1226 (by decide) ?_
  exact W.widen (k := 20 + 2 * (k + 5)) (n := 400 + 24 * (k + 5)) (by show 20 + 2 * k + 2 ≤ _; omega) (by show 400 + 24 * k + 12 ≤ _; omega) (next σ' H2 ls ⟨⟨g1, hg1.trans hg, zFin (th := zth_ofP σ (ya xs ((k : Int) + 1)) (ya xs ((k : Int) + 2))) ((hR1.kept (fun q h1 h2 => hk2 q h1 (hA1 q h2).2.1))) e5 e6⟩, hRM2, hZ2, ⟨f1, hO1.kept (hk2 o (z_lt hO1) hAMo)⟩, by omega, fun q hq => (hk2 q (by omega) (fun z => by have := (hAM q z).1; omega)).trans (hk31 q hq)⟩ (lv_sub hl [2, 3, 4, 5, 6] rfl))

set_option maxRecDepth 100000 in
set_option maxHeartbeats 4000000 in
theorem law_count {p : Program} {e : Env} {s : State} {m : MethodId} {below : List Frame} {meth : Method} {c : Code} (l : Launch) {b L : Nat} {xs : Nat → Int32} {D : va_G} {cI cO cL : ClassId} {A : Nat → Prop} {eE mi : Nat} {sa : Nat → Nat} {x0 bm : Nat} {ma : Nat → Nat} {o h3 : Nat} {Q : State → Prop} (C0 : LC l p s m c b L xs D cI cO cL A eE mi sa bm ma o h3) (k : Nat) (hk : k + 5 ≤ L) {σ : zT} {H : Heap} {ls : Array Slot} (Z : LZ s D cI cO cL A eE x0 bm ma o h3 σ H) (hl : lv_has ls 7 [(0, .ref b), (1, .ref x0), (2, .ref bm), (3, .ref o), (4, .int (zI (k : Int)))]) (next : ∀ (σ : zT) (H : Heap) (ls : Array Slot), LZ s D cI cO cL A eE x0 bm ma o h3 σ H → lv_has ls 7 [(0, .ref b), (1, .ref x0), (2, .ref bm), (3, .ref o), (4, .int (zI (k : Int)))] → W p l e room_1 s m #[Value.ref b] below meth c H [] (20 + 2 * (k + 5)) (400 + 24 * (k + 5)) Q (F0 m 1285 ls [])) : W p l e room_1 s m #[Value.ref b] below meth c H [] (20 + 2 * k) (400 + 24 * k) Q (F0 m 1229 ls []) := by
  obtain ⟨⟨hx, hb, hml, hown, hts⟩, ⟨hX, hbl, hL⟩, hK, hM, hfl, hpre, hA1, hAMo, hoo, hAM, hs3⟩ := C0
  obtain ⟨⟨g, hg, hR⟩, hRM, hZ, ⟨f0, hO⟩, hz3, hk3⟩ := Z
  have hs : s.heap.size ≤ H.size := by omega
  refine lv_aload_n hx hb dL_law_1229 rfl (lv_at hl 1 rfl) ?_
  refine lv_aload_n hx hb dL_law_1230 rfl (lv_at hl 0 rfl) ?_
  refine lv_iload hx hb dL_law_1231 (lv_at hl 4 rfl) ?_
  refine z_iconst hx hb dL_law_1233 ?_
  refine z_iadd hx hb dL_law_1234 ?_
  refine z_sc hx hb hX hbl hL hs hk3 (by omega) dL_law_1235 ?_
  refine lv_aload_n hx hb dL_law_1236 rfl (lv_at hl 3 rfl) ?_
  have hR0 : RX D cO A eE g (zup σ 0 0 0) H := hR.eq0 (fun k j hk => zup_t (fun q => hk (by rw [q]; rfl)))
  refine z_lS (As := [.ref x0, .int (zI (ya xs ((k : Int) + 1))), .ref o]) (rest := []) (P := zLP D cO cL A eE o g (zup σ 0 0 0) (zth_count (ya xs ((k : Int) + 1))) ((zup σ 0 0 0)) (fun f => zth_count (ya xs ((k : Int) + 1)) = 0 → f 0 = (zI (zan_count (zup σ 0 0 0) (ya xs ((k : Int) + 1)))).toInt64)) ⟨hx, hb, hml, hown, hts⟩ (show zLM l yL_count wsL_count ({ frames := 8, cells := 1, slots := 6, locals := 125 }) D cI cO cL A eE mi sa o [.ref x0, .int (zI (ya xs ((k : Int) + 1))), .ref o] H _ by rw [← hg]; exact c_L_count l hfl D cI cO cL A eE mi sa o g (zup σ 0 0 0) H f0 hR0 (zAll_th hZ 0) hO (fun z => (hA1 o z).1 rfl) (ya xs ((k : Int) + 1)) (ya_r xs _)) (vx_cwSW 3 hts gL_law_L_count rfl rfl rfl (by decide +kernel) ⟨(Nat.le_of_ble_eq_true rfl), (Nat.le_of_ble_eq_true rfl)⟩) (fun U hU hW => hpre U hW (by rw [hU]; exact hz3) (by rw [hU]; exact hk3)) rfl hl.1 rfl (Nat.le_of_ble_eq_true rfl) dL_law_1237 ⟨by show 20 + 2 * k + 1 ≤ 601024; omega, by show 400 + 24 * k + 6 ≤ 7293033; omega⟩ (fun r1 H1 L1 hp1 hz1 hk1 hL1 => ?_)
  obtain ⟨e1, ⟨g1, hg1, hR1⟩, f1, hO1, hf1⟩ := hp1
  rw [e1]
  refine va_forget (fun q hq => by
    rcases List.mem_append.mp hq with z | z
    · cases z
    · rcases hL1 q z with w | w
      · exact (hA1 _ w).2.2
      · rw [w]; exact hoo.1) ?_
  have hs1 : s.heap.size ≤ H1.size := by omega
  have hk31 : ∀ q : Nat, q < s.heap.size → H1[q]? = s.heap[q]? := fun q hq => (hk1 q (by omega) (fun z => by
    rcases z with z | z
    · have := (hA1 q z).2.2; omega
    · omega)).trans (hk3 q hq)
  have hRM1 : RM D cI bm ma σ H1 := hRM.kept (fun q hq => hk1 q (by have := (hAM q hq).2; omega) (fun z => by
    rcases z with z | z
    · exact (hA1 q z).2.1 hq
    · rw [z] at hq; exact hAMo hq))
  refine lv_istore (lv' := [(5, .int (zI (zth_count (ya xs ((k : Int) + 1))))), (0, .ref b), (1, .ref x0), (2, .ref bm), (3, .ref o), (4, .int (zI (k : Int)))]) hx hb dL_law_1240 hl (by decide) rfl (fun ls hl => ?_)
  refine lv_aload_n hx hb dL_law_1242 rfl (lv_at hl 3 rfl) ?_
  refine lv_aload_n hx hb dL_law_1243 rfl (lv_at hl 1 rfl) ?_
  refine lv_iload hx hb dL_law_1244 (lv_at hl 5 rfl) ?_
  refine z_iconst hx hb dL_law_1246 ?_
  refine z_iadd hx hb dL_law_1247 ?_
  refine z_sc hx hb hX hbl hL hs1 hk31 (by omega) dL_law_1248 ?_
  refine z_wmL (As := [.int (zI (ya xs ((k : Int) + 1)))]) (rest := []) ⟨hx, hb, hml, hown, hts⟩ (c_X5_count l D cI cO cL bm ma hM σ H1 hRM1 (ya xs ((k : Int) + 1)) hZ.1 (ya_r xs _)) (cwV 1 hts gL_law_X5_count rfl rfl rfl (by decide +kernel) ⟨(Nat.le_of_ble_eq_true rfl), (Nat.le_of_ble_eq_true rfl)⟩) hK (m_recv hK hRM1) rfl hl.1 rfl (Nat.le_of_ble_eq_true rfl) dL_law_1249 ⟨by show 20 + 2 * k + 1 ≤ 601024; omega, by show 400 + 24 * k + 6 ≤ 7293033; omega⟩ (fun rv σ' H2 L2 hp2 hRM2 hz2 hk2 hL2 => ?_)
  refine va_forget (fun q hq => by
    rcases List.mem_append.mp hq with z | z
    · cases z
    · exact (hAM _ (hL2 q z)).1) ?_
  have ht : 0 ≤ zth_count (ya xs ((k : Int) + 1)) ∧ zth_count (ya xs ((k : Int) + 1)) ≤ 3 := by unfold zth_count; (repeat' split) <;> omega
  obtain ⟨z2, e2, e3, e4, e5, e6⟩ := zPost_x hp2 (show (zup σ 0 0 0) 0 0 = 0 from zup_s _ _ _ _)
  rw [e2]
  refine lv_istore (lv' := [(6, .int (zI z2)), (5, .int (zI (zth_count (ya xs ((k : Int) + 1))))), (0, .ref b), (1, .ref x0), (2, .ref bm), (3, .ref o), (4, .int (zI (k : Int)))]) hx hb dL_law_1252 hl (by decide) rfl (fun ls hl => ?_)
  refine lv_aload_n hx hb dL_law_1254 rfl (lv_at hl 4 rfl) ?_
  refine z_cv (As := []) (rest := []) ⟨hx, hb, hml, hown, hts⟩ (c_X5_thrown l D cI cO cL bm ma σ' H2 hRM2) (cwV 0 hts gL_law_X5_thrown rfl rfl rfl (by decide +kernel) ⟨(Nat.le_of_ble_eq_true rfl), (Nat.le_of_ble_eq_true rfl)⟩) (zKK_mv D cI cO cL) (fun U _ hv => va_K.moved hv hK) (m_recv hK hRM2) rfl hl.1 rfl (Nat.le_of_ble_eq_true rfl) dL_law_1255 ⟨by show 20 + 2 * k + 1 ≤ 601024; omega, by show 400 + 24 * k + 6 ≤ 7293033; omega⟩ (fun r3 hr3 => ?_)
  rw [hr3, e4]
  refine lv_iload hx hb dL_law_1258 (lv_at hl 1 rfl) ?_
  refine z_top (b := zth_count (ya xs ((k : Int) + 1))) rfl ?_
  refine z_icmp_eq (tgt := 1265) hx hb dL_law_1260 (by decide) (by omega) (fun _ => ?_) (fun c1 => absurd rfl c1)
  have hZ2 : zAll σ' := by
    by_cases z : zth_count (ya xs ((k : Int) + 1)) = 0
    · rw [e5 z]; exact zAll_th hZ 0
    · rw [e6 z]; exact zAll_th hZ _
  refine lv_iload hx hb dL_law_1265 (lv_at hl 1 rfl) ?_
  refine z_top (b := zth_count (ya xs ((k : Int) + 1))) rfl ?_
  refine z_if_ne (tgt := 1282) hx hb dL_law_1267 (by decide) (by omega) (fun c1 => ?_) (fun c1 => ?_)
  · refine lv_goto (tgt := 1285) hx hb dL_law_1282 (by decide) ?_
    exact W.widen (k := 20 + 2 * (k + 5)) (n := 400 + 24 * (k + 5)) (by show 20 + 2 * k + 1 ≤ _; omega) (by show 400 + 24 * k + 6 ≤ _; omega) (next σ' H2 ls ⟨⟨g1, hg1.trans hg, zFin (th := zth_count (ya xs ((k : Int) + 1))) ((hR1.kept (fun q h1 h2 => hk2 q h1 (hA1 q h2).2.1))) e5 e6⟩, hRM2, hZ2, ⟨f1, hO1.kept (hk2 o (z_lt hO1) hAMo)⟩, by omega, fun q hq => (hk2 q (by omega) (fun z => by have := (hAM q z).1; omega)).trans (hk31 q hq)⟩ (lv_sub hl [2, 3, 4, 5, 6] rfl))
  refine lv_aload_n hx hb dL_law_1270 rfl (lv_at hl 5 rfl) ?_
  refine z_iconst hx hb dL_law_1271 ?_
  refine va_lald (ws := [(o, zOut cL f1)]) hx hb hK (z_P1 (hO1.kept (hk2 o (z_lt hO1) hAMo))) 0 2 rfl rfl (zI_in (n := 1) (by decide)) dL_law_1272 ?_
  refine lv_iload hx hb dL_law_1273 (lv_at hl 0 rfl) ?_
  refine lv_i2l hx hb dL_law_1275 rfl ?_
  refine W.lcmp hx hb dL_law_1276 ?_
  refine z_tov (w := .int (zI 0)) (by rw [show f1 (zI 0).toNatClampNeg = (zI z2).toInt64 by rw [show (zI 0).toNatClampNeg = 0 by decide, e3 c1]; exact hf1 c1, z_cmp_eq]) ?_
  refine z_if_eq (tgt := 1282) hx hb dL_law_1277 (by decide) (by decide) (fun _ => ?_) (fun c2 => absurd rfl c2)
  refine lv_goto (tgt := 1285) hx hb dL_law_1282 (by decide) ?_
  exact W.widen (k := 20 + 2 * (k + 5)) (n := 400 + 24 * (k + 5)) (by show 20 + 2 * k + 1 ≤ _; omega) (by show 400 + 24 * k + 6 ≤ _; omega) (next σ' H2 ls ⟨⟨g1, hg1.trans hg, zFin (th := zth_count (ya xs ((k : Int) + 1))) ((hR1.kept (fun q h1 h2 => hk2 q h1 (hA1 q h2).2.1))) e5 e6⟩, hRM2, hZ2, ⟨f1, hO1.kept (hk2 o (z_lt hO1) hAMo)⟩, by omega, fun q hq => (hk2 q (by omega) (fun z => by have := (hAM q z).1; omega)).trans (hk31 q hq)⟩ (lv_sub hl [2, 3, 4, 5, 6] rfl))
