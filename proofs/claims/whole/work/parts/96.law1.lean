set_option maxHeartbeats 4000000 in
set_option maxRecDepth 100000 in
theorem law_c0 {p : Program} {l : Launch} {e : Env} {s : State} {m : MethodId} {below : List Frame} {meth : Method} {c : Code} {b L : Nat} {xs : Nat → Int32} (hL : L ≤ 5632) (C0 : lw_At p s m meth c b L xs) {G : sy_G} (hK : sy_K G s) {g : Nat → Nat} {cx : cs} {ob : Nat} {ad : Nat → Nat} {sc : Nat → Nat} {mI : Nat → Nat → Int32} {mL : Nat → Nat → Int64} {mZ : Nat → Nat → Bool} {H : Heap} {locs : List Loc} {i : Nat} (hi : i + 11 ≤ L) {Q : State → Prop} (hLW : LW s G g cx ob ad sc mI mL mZ i H locs) {ls : Array Slot} (hl : lv_has ls 4 [(3, .int (nI i)), (2, .ref ob), (1, .ref (g 0)), (0, .ref b)])
    (kk : ∀ (g9 : Nat → Nat) (cx9 : cs) (sc9 : Nat → Nat) (mI9 : Nat → Nat → Int32) (mL9 : Nat → Nat → Int64) (mZ9 : Nat → Nat → Bool) (H9 : Heap) (locs9 : List Loc), g9 0 = g 0 → LW s G g9 cx9 ob ad sc9 mI9 mL9 mZ9 (i + 1) H9 locs9 → W p l e room_1 s m #[Value.ref b] below meth c H9 locs9 (fc cx9) (fs cx9) Q (F0 m 1384 ls [])) :
    W p l e room_1 s m #[Value.ref b] below meth c H locs (fc cx) (fs cx) Q (F0 m 128 ls []) := by
  obtain ⟨hx, hb, hr, hml, hown0, hts, hX, hbl, hlocks, hgv⟩ := C0
  obtain ⟨hSP, hSD, hM, hMD, hap, hS, hR, h4n⟩ := hLW
  have hown : s.vm.findClass R_Law = some m.cls := hown0
  have ht : ∀ wd ∈ sy_T, wd.before #[Value.ref b] s = true := fun wd h => hts wd (List.mem_filter.mp h).1
  have hbA : ¬ (fun q : Nat => s.heap.size ≤ q) b := Nat.not_le.mpr hbl
  have e0 := hR.s0
  have e1 := hR.s1
  have e2 := hR.s2
  have e3 := hR.s3
  have e4 := hR.s4
  have b0 := hR.b0
  have b1 := hR.b1
  have b2 := hR.b2
  have b3 := hR.b3
  have hcb : cs_b cx := cs_bR hR (by omega)
  obtain ⟨hd, hs, hn, hc, hm, hb4⟩ := id hcb
  have hrc : fc cx + 0 ≤ room_1.cells := by show _ ≤ 600000; unfold fc; omega
  have hrs : fs cx + 0 ≤ room_1.slots := by show _ ≤ 7302250; unfold fs; omega
  refine lv_aload_n hx hb d_Law_law_128 rfl (lv_at hl 2 rfl) ?_
  by_cases hq : cx.nd < 4
  · have hra : fc cx + 4 ≤ room_1.cells := by show _ ≤ 600000; unfold fc; omega
    have hrb : fs cx + 26 ≤ room_1.slots := by show _ ≤ 7302250; unfold fs; omega
    have hF9 : ∀ q, (sys_A G g cx q ∨ H.size ≤ q) → s.heap.size ≤ q := fun q h => h.elim (fun h => ss_in hSD h) (fun h => Nat.le_trans hS.1 h)
    refine va_calli (sy_runV (As := []) (rest := []) (b := g 0) ⟨hx, hb, hml, hown, ht⟩ cl_Law_13 (s_device l G g cx hcb  H.size hq) hK ⟨⟨hSP, ss_anyD hSD⟩, rfl⟩ (va_recv hK.1 (sys_x hSP) (ci := 0) (q0 := 0) rfl rfl) rfl nm_DeviceSets_device rfl rfl ⟨Nat.le_of_ble_eq_true rfl, Nat.le_of_ble_eq_true rfl⟩ hl.1 (Nat.le_of_ble_eq_true rfl) d_Law_law_129 ⟨hra, hrb⟩) hS (fun q _ h => hF9 q h) (fun q h => hF9 q h) (fun r9 g9 t9 H9 locs ht9 hvm9 hw9 hB9 hz9 hk9 hS => ?_)
    obtain ⟨hr9, hg9⟩ := hw9
    subst hr9
    rw [ht9] at hB9
    have hM9 : va_P G.1 classes (mw G.2 ob ad sc mI mL mZ) H9 := hM.kept (fun k q h => hk9 q.1 (hM k q h).lt (fun h9 => h9.elim (fun h9 => hap q.1 h9 ⟨k, q.2, h⟩) (fun h9 => Nat.not_le.mpr (hM k q h).lt h9)))
    have hap9 : ∀ q, sys_A G g9 (x_device cx ).2 q → ¬ sy_A (mw G.2 ob ad sc mI mL mZ) q := fun q h h2 => (ss_in hB9.2 h).elim (fun h3 => hap q h3 h2) (fun h3 => by obtain ⟨k, e, hk⟩ := h2; exact Nat.not_le.mpr (hM k _ hk).lt h3)
    have hSP : sys_P G g9 (x_device cx ).2 H9 := hB9.1
    have hSD : sys_D (fun q => s.heap.size ≤ q) G g9 (x_device cx ).2 := ⟨hB9.2.1, fun i q h => hF9 q.1 (hB9.2.2 i q h)⟩
    have hM := hM9
    have hap := hap9
    generalize H9 = H at hSP hM hS ⊢
    have e1 : x_device cx = (nI cx.nd, cx.ad) := by rw [x_device, if_neg (by omega)]
    have hf9 : fc cx + 4 = fc (x_device cx ).2 ∧ fs cx + 26 = fs (x_device cx ).2 := by rw [e1]; unfold fc fs; exact ⟨by show _ = 36 + 4 * (cx.nd + 1) + 3 * cx.ns; omega, by show _ = 2884 + 26 * (cx.nd + 1) + 11 * cx.ns; omega⟩
    rw [hf9.1, hf9.2]
    have hrc : fc (x_device cx ).2 ≤ room_1.cells := by rw [← hf9.1]; exact hra
    have hrs : fs (x_device cx ).2 ≤ room_1.slots := by rw [← hf9.2]; exact hrb
    refine lv_aload_n hx hb d_Law_law_132 rfl (lv_at hl 1 rfl) ?_
    refine va_calli (sy_runV (As := []) (rest := [.int ((x_device cx ).1)]) (b := ob) ⟨hx, hb, hml, hown, ht⟩ cl_Law_17 (c_Model_device l G ob ad sc mI mL mZ  (by omega)) hK ⟨hM, sy_any hMD⟩ (va_recv hK.1 hM (ci := 7) (q0 := 0) rfl rfl) rfl nm_Model_device rfl rfl ⟨Nat.le_of_ble_eq_true rfl, Nat.le_of_ble_eq_true rfl⟩ hl.1 (Nat.le_of_ble_eq_true rfl) d_Law_law_133 ⟨hrc, hrs⟩) hS (fun q _ h => sy_in hMD h) (fun q h => sy_in hMD h) (fun r9 u9 t9 H9 locs ht9 hvm9 hw9 hB9 hz9 hk9 hS => ?_)
    obtain ⟨hr9, hu9⟩ := hw9
    subst hr9
    subst hu9
    rw [ht9] at hB9
    have hSP : sys_P G g9 (x_device cx ).2 H9 := lx_S hSP hap hk9
    have hM : va_P G.1 classes (mw G.2 ob ad (mo_device sc mI mL mZ ).2.1 (mo_device sc mI mL mZ ).2.2.1 (mo_device sc mI mL mZ ).2.2.2.1 (mo_device sc mI mL mZ ).2.2.2.2) H9 := hB9
    have hMD : va_D (fun q => s.heap.size ≤ q) (mw G.2 ob ad (mo_device sc mI mL mZ ).2.1 (mo_device sc mI mL mZ ).2.2.1 (mo_device sc mI mL mZ ).2.2.2.1 (mo_device sc mI mL mZ ).2.2.2.2) := sy_Da hMD rfl
    have hap : ∀ q, sys_A G g9 (x_device cx ).2 q → ¬ sy_A (mw G.2 ob ad (mo_device sc mI mL mZ ).2.1 (mo_device sc mI mL mZ ).2.2.1 (mo_device sc mI mL mZ ).2.2.2.1 (mo_device sc mI mL mZ ).2.2.2.2) q := fun q h h2 => hap q h (sy_Aa (ws := mw G.2 ob ad sc mI mL mZ) (ws' := mw G.2 ob ad (mo_device sc mI mL mZ ).2.1 (mo_device sc mI mL mZ ).2.2.1 (mo_device sc mI mL mZ ).2.2.2.1 (mo_device sc mI mL mZ ).2.2.2.2) rfl h2)
    generalize H9 = H at hSP hM hS ⊢
    have hE := e_device hR 
    have hE9 := hE.1
    have hR := hE.2
    have hq4 : (mo_device sc mI mL mZ ).2.1 4 ≤ sc 4 + 1 := q_device
    refine lv_icmp_eq (tgt := 1384) hx hb d_Law_law_136 (by decide) (fun c_1 => ?_) (fun c_1 => ?_)
    · exact kk g9 (x_device cx ).2 (mo_device sc mI mL mZ ).2.1 (mo_device sc mI mL mZ ).2.2.1 (mo_device sc mI mL mZ ).2.2.2.1 (mo_device sc mI mL mZ ).2.2.2.2 _ _ hg9 ⟨hSP, hSD, hM, hMD, hap, hS, hR, by omega⟩
    · exact absurd hE9 c_1
  · have e1 : x_device cx = (-1, cx) := by rw [x_device, if_pos (by omega)]
    refine va_calli (sy_runV (As := []) (rest := []) (b := g 0) ⟨hx, hb, hml, hown, ht⟩ cl_Law_13 (s_deviceN l G g cx hcb  hq) hK ⟨hSP, ss_anyD hSD⟩ (va_recv hK.1 (sys_x hSP) (ci := 0) (q0 := 0) rfl rfl) rfl nm_DeviceSets_device rfl rfl ⟨Nat.le_of_ble_eq_true rfl, Nat.le_of_ble_eq_true rfl⟩ hl.1 (Nat.le_of_ble_eq_true rfl) d_Law_law_129 ⟨hrc, hrs⟩) hS (fun q _ h => ss_in hSD h) (fun q h => ss_in hSD h) (fun r9 u9 t9 H9 locs ht9 hvm9 hw9 hB9 hz9 hk9 hS => ?_)
    obtain ⟨hr9, hu9⟩ := hw9
    subst hr9
    subst hu9
    rw [ht9] at hB9
    have hM : va_P G.1 classes (mw G.2 ob ad sc mI mL mZ) H9 := lx_M hM hap hk9
    have hxa : ∀ i9 : sid, (sy_cell G.2 g (x_device cx ).2 i9).map Prod.fst = (sy_cell G.2 g cx i9).map Prod.fst := fun i9 => by rw [e1]
    have hSP : sys_P G g (x_device cx ).2 H9 := hB9
    have hSD : sys_D (fun q => s.heap.size ≤ q) G g (x_device cx ).2 := ss_setD hSD hxa
    have hap : ∀ q, sys_A G g (x_device cx ).2 q → ¬ sy_A (mw G.2 ob ad sc mI mL mZ) q := fun q h => hap q (ss_Aa hxa h)
    generalize H9 = H at hSP hM hS ⊢
    have hf9 : fc (x_device cx ).2 = fc cx ∧ fs (x_device cx ).2 = fs cx := by rw [e1]; exact ⟨rfl, rfl⟩
    refine lv_aload_n hx hb d_Law_law_132 rfl (lv_at hl 1 rfl) ?_
    refine va_calli (sy_runV (As := []) (rest := [.int ((x_device cx ).1)]) (b := ob) ⟨hx, hb, hml, hown, ht⟩ cl_Law_17 (c_Model_device l G ob ad sc mI mL mZ  (by omega)) hK ⟨hM, sy_any hMD⟩ (va_recv hK.1 hM (ci := 7) (q0 := 0) rfl rfl) rfl nm_Model_device rfl rfl ⟨Nat.le_of_ble_eq_true rfl, Nat.le_of_ble_eq_true rfl⟩ hl.1 (Nat.le_of_ble_eq_true rfl) d_Law_law_133 ⟨hrc, hrs⟩) hS (fun q _ h => sy_in hMD h) (fun q h => sy_in hMD h) (fun r9 u9 t9 H9 locs ht9 hvm9 hw9 hB9 hz9 hk9 hS => ?_)
    obtain ⟨hr9, hu9⟩ := hw9
    subst hr9
    subst hu9
    rw [ht9] at hB9
    have hSP : sys_P G g (x_device cx ).2 H9 := lx_S hSP hap hk9
    have hM : va_P G.1 classes (mw G.2 ob ad (mo_device sc mI mL mZ ).2.1 (mo_device sc mI mL mZ ).2.2.1 (mo_device sc mI mL mZ ).2.2.2.1 (mo_device sc mI mL mZ ).2.2.2.2) H9 := hB9
    have hMD : va_D (fun q => s.heap.size ≤ q) (mw G.2 ob ad (mo_device sc mI mL mZ ).2.1 (mo_device sc mI mL mZ ).2.2.1 (mo_device sc mI mL mZ ).2.2.2.1 (mo_device sc mI mL mZ ).2.2.2.2) := sy_Da hMD rfl
    have hap : ∀ q, sys_A G g (x_device cx ).2 q → ¬ sy_A (mw G.2 ob ad (mo_device sc mI mL mZ ).2.1 (mo_device sc mI mL mZ ).2.2.1 (mo_device sc mI mL mZ ).2.2.2.1 (mo_device sc mI mL mZ ).2.2.2.2) q := fun q h h2 => hap q h (sy_Aa (ws := mw G.2 ob ad sc mI mL mZ) (ws' := mw G.2 ob ad (mo_device sc mI mL mZ ).2.1 (mo_device sc mI mL mZ ).2.2.1 (mo_device sc mI mL mZ ).2.2.2.1 (mo_device sc mI mL mZ ).2.2.2.2) rfl h2)
    generalize H9 = H at hSP hM hS ⊢
    have hE := e_device hR 
    have hE9 := hE.1
    have hR := hE.2
    have hq4 : (mo_device sc mI mL mZ ).2.1 4 ≤ sc 4 + 1 := q_device
    refine lv_icmp_eq (tgt := 1384) hx hb d_Law_law_136 (by decide) (fun c_2 => ?_) (fun c_2 => ?_)
    · rw [← hf9.1, ← hf9.2]
      exact kk g (x_device cx ).2 (mo_device sc mI mL mZ ).2.1 (mo_device sc mI mL mZ ).2.2.1 (mo_device sc mI mL mZ ).2.2.2.1 (mo_device sc mI mL mZ ).2.2.2.2 _ _ rfl ⟨hSP, hSD, hM, hMD, hap, hS, hR, by omega⟩
    · exact absurd hE9 c_2
set_option maxHeartbeats 4000000 in
set_option maxRecDepth 100000 in
theorem law_c1 {p : Program} {l : Launch} {e : Env} {s : State} {m : MethodId} {below : List Frame} {meth : Method} {c : Code} {b L : Nat} {xs : Nat → Int32} (hL : L ≤ 5632) (C0 : lw_At p s m meth c b L xs) {G : sy_G} (hK : sy_K G s) {g : Nat → Nat} {cx : cs} {ob : Nat} {ad : Nat → Nat} {sc : Nat → Nat} {mI : Nat → Nat → Int32} {mL : Nat → Nat → Int64} {mZ : Nat → Nat → Bool} {H : Heap} {locs : List Loc} {i : Nat} (hi : i + 11 ≤ L) {Q : State → Prop} (hLW : LW s G g cx ob ad sc mI mL mZ i H locs) {ls : Array Slot} (hl : lv_has ls 4 [(3, .int (nI i)), (2, .ref ob), (1, .ref (g 0)), (0, .ref b)])
    (kk : ∀ (g9 : Nat → Nat) (cx9 : cs) (sc9 : Nat → Nat) (mI9 : Nat → Nat → Int32) (mL9 : Nat → Nat → Int64) (mZ9 : Nat → Nat → Bool) (H9 : Heap) (locs9 : List Loc), g9 0 = g 0 → LW s G g9 cx9 ob ad sc9 mI9 mL9 mZ9 (i + 1) H9 locs9 → W p l e room_1 s m #[Value.ref b] below meth c H9 locs9 (fc cx9) (fs cx9) Q (F0 m 1384 ls [])) :
    W p l e room_1 s m #[Value.ref b] below meth c H locs (fc cx) (fs cx) Q (F0 m 141 ls []) := by
  obtain ⟨hx, hb, hr, hml, hown0, hts, hX, hbl, hlocks, hgv⟩ := C0
  obtain ⟨hSP, hSD, hM, hMD, hap, hS, hR, h4n⟩ := hLW
  have hown : s.vm.findClass R_Law = some m.cls := hown0
  have ht : ∀ wd ∈ sy_T, wd.before #[Value.ref b] s = true := fun wd h => hts wd (List.mem_filter.mp h).1
  have hbA : ¬ (fun q : Nat => s.heap.size ≤ q) b := Nat.not_le.mpr hbl
  have e0 := hR.s0
  have e1 := hR.s1
  have e2 := hR.s2
  have e3 := hR.s3
  have e4 := hR.s4
  have b0 := hR.b0
  have b1 := hR.b1
  have b2 := hR.b2
  have b3 := hR.b3
  have hcb : cs_b cx := cs_bR hR (by omega)
  obtain ⟨hd, hs, hn, hc, hm, hb4⟩ := id hcb
  have hrc : fc cx + 0 ≤ room_1.cells := by show _ ≤ 600000; unfold fc; omega
  have hrs : fs cx + 0 ≤ room_1.slots := by show _ ≤ 7302250; unfold fs; omega
  refine lv_aload_n hx hb d_Law_law_141 rfl (lv_at hl 2 rfl) ?_
  refine lv_aload_n hx hb d_Law_law_142 rfl (lv_at hl 3 rfl) ?_
  refine lv_iload_n hx hb d_Law_law_143 rfl (lv_at hl 0 rfl) ?_
  refine lv_iconst (v := 1) hx hb d_Law_law_144 (by decide) ?_
  refine lv_iadd hx hb d_Law_law_145 ?_
  refine sy_ti (y := nI (i + 1)) (nI_add i 1) ?_
  refine va_sld hx hb hX hbl hbA hS (vp_in_nI (n := i + 1) (by omega) (by omega)) d_Law_law_146 ?_
  refine sy_ti (y := xs (i + 1)) (by rw [nI_clamp (by omega)]) ?_
  refine lv_aload_n hx hb d_Law_law_147 rfl (lv_at hl 3 rfl) ?_
  refine lv_iload_n hx hb d_Law_law_148 rfl (lv_at hl 0 rfl) ?_
  refine lv_iconst (v := 2) hx hb d_Law_law_149 (by decide) ?_
  refine lv_iadd hx hb d_Law_law_150 ?_
  refine sy_ti (y := nI (i + 2)) (nI_add i 2) ?_
  refine va_sld hx hb hX hbl hbA hS (vp_in_nI (n := i + 2) (by omega) (by omega)) d_Law_law_151 ?_
  refine sy_ti (y := xs (i + 2)) (by rw [nI_clamp (by omega)]) ?_
  refine lv_i2l (v := (xs (i + 2)).toInt64) hx hb d_Law_law_152 rfl ?_
  refine lv_bipush (v := 32) hx hb d_Law_law_153 (by decide) ?_
  refine lv_lshl (v := ((xs (i + 2)).toInt64) <<< ((32 : Int32).toInt64 &&& 63)) hx hb d_Law_law_155 rfl ?_
  refine lv_aload_n hx hb d_Law_law_156 rfl (lv_at hl 3 rfl) ?_
  refine lv_iload_n hx hb d_Law_law_157 rfl (lv_at hl 0 rfl) ?_
  refine lv_iconst (v := 3) hx hb d_Law_law_158 (by decide) ?_
  refine lv_iadd hx hb d_Law_law_159 ?_
  refine sy_ti (y := nI (i + 3)) (nI_add i 3) ?_
  refine va_sld hx hb hX hbl hbA hS (vp_in_nI (n := i + 3) (by omega) (by omega)) d_Law_law_160 ?_
  refine sy_ti (y := xs (i + 3)) (by rw [nI_clamp (by omega)]) ?_
  refine lv_i2l (v := (xs (i + 3)).toInt64) hx hb d_Law_law_161 rfl ?_
  refine lv_ldc2 (v := 4294967295) hx hb hown (ht _ m_726) d_Law_law_162 ?_
  refine lv_land hx hb d_Law_law_165 ?_
  refine lv_lor hx hb d_Law_law_166 ?_
  refine lv_aload_n hx hb d_Law_law_167 rfl (lv_at hl 3 rfl) ?_
  refine lv_iload_n hx hb d_Law_law_168 rfl (lv_at hl 0 rfl) ?_
  refine lv_iconst (v := 4) hx hb d_Law_law_169 (by decide) ?_
  refine lv_iadd hx hb d_Law_law_170 ?_
  refine sy_ti (y := nI (i + 4)) (nI_add i 4) ?_
  refine va_sld hx hb hX hbl hbA hS (vp_in_nI (n := i + 4) (by omega) (by omega)) d_Law_law_171 ?_
  refine sy_ti (y := xs (i + 4)) (by rw [nI_clamp (by omega)]) ?_
  refine lv_aload_n hx hb d_Law_law_172 rfl (lv_at hl 3 rfl) ?_
  refine lv_iload_n hx hb d_Law_law_173 rfl (lv_at hl 0 rfl) ?_
  refine lv_iconst (v := 5) hx hb d_Law_law_174 (by decide) ?_
  refine lv_iadd hx hb d_Law_law_175 ?_
  refine sy_ti (y := nI (i + 5)) (nI_add i 5) ?_
  refine va_sld hx hb hX hbl hbA hS (vp_in_nI (n := i + 5) (by omega) (by omega)) d_Law_law_176 ?_
  refine sy_ti (y := xs (i + 5)) (by rw [nI_clamp (by omega)]) ?_
  refine lv_i2l (v := (xs (i + 5)).toInt64) hx hb d_Law_law_177 rfl ?_
  refine lv_bipush (v := 32) hx hb d_Law_law_178 (by decide) ?_
  refine lv_lshl (v := ((xs (i + 5)).toInt64) <<< ((32 : Int32).toInt64 &&& 63)) hx hb d_Law_law_180 rfl ?_
  refine lv_aload_n hx hb d_Law_law_181 rfl (lv_at hl 3 rfl) ?_
  refine lv_iload_n hx hb d_Law_law_182 rfl (lv_at hl 0 rfl) ?_
  refine lv_bipush (v := 6) hx hb d_Law_law_183 (by decide) ?_
  refine lv_iadd hx hb d_Law_law_185 ?_
  refine sy_ti (y := nI (i + 6)) (nI_add i 6) ?_
  refine va_sld hx hb hX hbl hbA hS (vp_in_nI (n := i + 6) (by omega) (by omega)) d_Law_law_186 ?_
  refine sy_ti (y := xs (i + 6)) (by rw [nI_clamp (by omega)]) ?_
  refine lv_i2l (v := (xs (i + 6)).toInt64) hx hb d_Law_law_187 rfl ?_
  refine lv_ldc2 (v := 4294967295) hx hb hown (ht _ m_726) d_Law_law_188 ?_
  refine lv_land hx hb d_Law_law_191 ?_
  refine lv_lor hx hb d_Law_law_192 ?_
  refine lv_aload_n hx hb d_Law_law_193 rfl (lv_at hl 3 rfl) ?_
  refine lv_iload_n hx hb d_Law_law_194 rfl (lv_at hl 0 rfl) ?_
  refine lv_bipush (v := 7) hx hb d_Law_law_195 (by decide) ?_
  refine lv_iadd hx hb d_Law_law_197 ?_
  refine sy_ti (y := nI (i + 7)) (nI_add i 7) ?_
  refine va_sld hx hb hX hbl hbA hS (vp_in_nI (n := i + 7) (by omega) (by omega)) d_Law_law_198 ?_
  refine sy_ti (y := xs (i + 7)) (by rw [nI_clamp (by omega)]) ?_
  refine lv_i2l (v := (xs (i + 7)).toInt64) hx hb d_Law_law_199 rfl ?_
  refine lv_bipush (v := 32) hx hb d_Law_law_200 (by decide) ?_
  refine lv_lshl (v := ((xs (i + 7)).toInt64) <<< ((32 : Int32).toInt64 &&& 63)) hx hb d_Law_law_202 rfl ?_
  refine lv_aload_n hx hb d_Law_law_203 rfl (lv_at hl 3 rfl) ?_
  refine lv_iload_n hx hb d_Law_law_204 rfl (lv_at hl 0 rfl) ?_
  refine lv_bipush (v := 8) hx hb d_Law_law_205 (by decide) ?_
  refine lv_iadd hx hb d_Law_law_207 ?_
  refine sy_ti (y := nI (i + 8)) (nI_add i 8) ?_
  refine va_sld hx hb hX hbl hbA hS (vp_in_nI (n := i + 8) (by omega) (by omega)) d_Law_law_208 ?_
  refine sy_ti (y := xs (i + 8)) (by rw [nI_clamp (by omega)]) ?_
  refine lv_i2l (v := (xs (i + 8)).toInt64) hx hb d_Law_law_209 rfl ?_
  refine lv_ldc2 (v := 4294967295) hx hb hown (ht _ m_726) d_Law_law_210 ?_
  refine lv_land hx hb d_Law_law_213 ?_
  refine lv_lor hx hb d_Law_law_214 ?_
  refine lv_aload_n hx hb d_Law_law_215 rfl (lv_at hl 3 rfl) ?_
  refine lv_iload_n hx hb d_Law_law_216 rfl (lv_at hl 0 rfl) ?_
  refine lv_bipush (v := 9) hx hb d_Law_law_217 (by decide) ?_
  refine lv_iadd hx hb d_Law_law_219 ?_
  refine sy_ti (y := nI (i + 9)) (nI_add i 9) ?_
  refine va_sld hx hb hX hbl hbA hS (vp_in_nI (n := i + 9) (by omega) (by omega)) d_Law_law_220 ?_
  refine sy_ti (y := xs (i + 9)) (by rw [nI_clamp (by omega)]) ?_
  refine lv_i2l (v := (xs (i + 9)).toInt64) hx hb d_Law_law_221 rfl ?_
  refine lv_bipush (v := 32) hx hb d_Law_law_222 (by decide) ?_
  refine lv_lshl (v := ((xs (i + 9)).toInt64) <<< ((32 : Int32).toInt64 &&& 63)) hx hb d_Law_law_224 rfl ?_
  refine lv_aload_n hx hb d_Law_law_225 rfl (lv_at hl 3 rfl) ?_
  refine lv_iload_n hx hb d_Law_law_226 rfl (lv_at hl 0 rfl) ?_
  refine lv_bipush (v := 10) hx hb d_Law_law_227 (by decide) ?_
  refine lv_iadd hx hb d_Law_law_229 ?_
  refine sy_ti (y := nI (i + 10)) (nI_add i 10) ?_
  refine va_sld hx hb hX hbl hbA hS (vp_in_nI (n := i + 10) (by omega) (by omega)) d_Law_law_230 ?_
  refine sy_ti (y := xs (i + 10)) (by rw [nI_clamp (by omega)]) ?_
  refine lv_i2l (v := (xs (i + 10)).toInt64) hx hb d_Law_law_231 rfl ?_
  refine lv_ldc2 (v := 4294967295) hx hb hown (ht _ m_726) d_Law_law_232 ?_
  refine lv_land hx hb d_Law_law_235 ?_
  refine lv_lor hx hb d_Law_law_236 ?_
  refine va_calli (sy_runV (As := [.int (xs (i + 1)), .long ((((xs (i + 2)).toInt64) <<< ((32 : Int32).toInt64 &&& 63)) ||| (((xs (i + 3)).toInt64) &&& 4294967295)), .int (xs (i + 4)), .long ((((xs (i + 5)).toInt64) <<< ((32 : Int32).toInt64 &&& 63)) ||| (((xs (i + 6)).toInt64) &&& 4294967295)), .long ((((xs (i + 7)).toInt64) <<< ((32 : Int32).toInt64 &&& 63)) ||| (((xs (i + 8)).toInt64) &&& 4294967295)), .long ((((xs (i + 9)).toInt64) <<< ((32 : Int32).toInt64 &&& 63)) ||| (((xs (i + 10)).toInt64) &&& 4294967295))]) (rest := []) (b := g 0) ⟨hx, hb, hml, hown, ht⟩ cl_Law_20 (s_tell l G g cx hcb (xs (i + 1)) ((((xs (i + 2)).toInt64) <<< ((32 : Int32).toInt64 &&& 63)) ||| (((xs (i + 3)).toInt64) &&& 4294967295)) (xs (i + 4)) ((((xs (i + 5)).toInt64) <<< ((32 : Int32).toInt64 &&& 63)) ||| (((xs (i + 6)).toInt64) &&& 4294967295)) ((((xs (i + 7)).toInt64) <<< ((32 : Int32).toInt64 &&& 63)) ||| (((xs (i + 8)).toInt64) &&& 4294967295)) ((((xs (i + 9)).toInt64) <<< ((32 : Int32).toInt64 &&& 63)) ||| (((xs (i + 10)).toInt64) &&& 4294967295))) hK ⟨hSP, ss_anyD hSD⟩ (va_recv hK.1 (sys_x hSP) (ci := 0) (q0 := 0) rfl rfl) rfl nm_DeviceSets_tell rfl rfl ⟨Nat.le_of_ble_eq_true rfl, Nat.le_of_ble_eq_true rfl⟩ hl.1 (Nat.le_of_ble_eq_true rfl) d_Law_law_237 ⟨hrc, hrs⟩) hS (fun q _ h => ss_in hSD h) (fun q h => ss_in hSD h) (fun r9 u9 t9 H9 locs ht9 hvm9 hw9 hB9 hz9 hk9 hS => ?_)
  obtain ⟨hr9, hu9⟩ := hw9
  subst hr9
  subst hu9
  rw [ht9] at hB9
  have hM : va_P G.1 classes (mw G.2 ob ad sc mI mL mZ) H9 := lx_M hM hap hk9
  have hxa : ∀ i9 : sid, (sy_cell G.2 g (x_tell cx (xs (i + 1)) ((((xs (i + 2)).toInt64) <<< ((32 : Int32).toInt64 &&& 63)) ||| (((xs (i + 3)).toInt64) &&& 4294967295)) (xs (i + 4)) ((((xs (i + 5)).toInt64) <<< ((32 : Int32).toInt64 &&& 63)) ||| (((xs (i + 6)).toInt64) &&& 4294967295)) ((((xs (i + 7)).toInt64) <<< ((32 : Int32).toInt64 &&& 63)) ||| (((xs (i + 8)).toInt64) &&& 4294967295)) ((((xs (i + 9)).toInt64) <<< ((32 : Int32).toInt64 &&& 63)) ||| (((xs (i + 10)).toInt64) &&& 4294967295))).2 i9).map Prod.fst = (sy_cell G.2 g cx i9).map Prod.fst := fun i9 => xa_tell i9
  have hSP : sys_P G g (x_tell cx (xs (i + 1)) ((((xs (i + 2)).toInt64) <<< ((32 : Int32).toInt64 &&& 63)) ||| (((xs (i + 3)).toInt64) &&& 4294967295)) (xs (i + 4)) ((((xs (i + 5)).toInt64) <<< ((32 : Int32).toInt64 &&& 63)) ||| (((xs (i + 6)).toInt64) &&& 4294967295)) ((((xs (i + 7)).toInt64) <<< ((32 : Int32).toInt64 &&& 63)) ||| (((xs (i + 8)).toInt64) &&& 4294967295)) ((((xs (i + 9)).toInt64) <<< ((32 : Int32).toInt64 &&& 63)) ||| (((xs (i + 10)).toInt64) &&& 4294967295))).2 H9 := hB9
  have hSD : sys_D (fun q => s.heap.size ≤ q) G g (x_tell cx (xs (i + 1)) ((((xs (i + 2)).toInt64) <<< ((32 : Int32).toInt64 &&& 63)) ||| (((xs (i + 3)).toInt64) &&& 4294967295)) (xs (i + 4)) ((((xs (i + 5)).toInt64) <<< ((32 : Int32).toInt64 &&& 63)) ||| (((xs (i + 6)).toInt64) &&& 4294967295)) ((((xs (i + 7)).toInt64) <<< ((32 : Int32).toInt64 &&& 63)) ||| (((xs (i + 8)).toInt64) &&& 4294967295)) ((((xs (i + 9)).toInt64) <<< ((32 : Int32).toInt64 &&& 63)) ||| (((xs (i + 10)).toInt64) &&& 4294967295))).2 := ss_setD hSD hxa
  have hap : ∀ q, sys_A G g (x_tell cx (xs (i + 1)) ((((xs (i + 2)).toInt64) <<< ((32 : Int32).toInt64 &&& 63)) ||| (((xs (i + 3)).toInt64) &&& 4294967295)) (xs (i + 4)) ((((xs (i + 5)).toInt64) <<< ((32 : Int32).toInt64 &&& 63)) ||| (((xs (i + 6)).toInt64) &&& 4294967295)) ((((xs (i + 7)).toInt64) <<< ((32 : Int32).toInt64 &&& 63)) ||| (((xs (i + 8)).toInt64) &&& 4294967295)) ((((xs (i + 9)).toInt64) <<< ((32 : Int32).toInt64 &&& 63)) ||| (((xs (i + 10)).toInt64) &&& 4294967295))).2 q → ¬ sy_A (mw G.2 ob ad sc mI mL mZ) q := fun q h => hap q (ss_Aa hxa h)
  generalize H9 = H at hSP hM hS ⊢
  have hf9 : fc (x_tell cx (xs (i + 1)) ((((xs (i + 2)).toInt64) <<< ((32 : Int32).toInt64 &&& 63)) ||| (((xs (i + 3)).toInt64) &&& 4294967295)) (xs (i + 4)) ((((xs (i + 5)).toInt64) <<< ((32 : Int32).toInt64 &&& 63)) ||| (((xs (i + 6)).toInt64) &&& 4294967295)) ((((xs (i + 7)).toInt64) <<< ((32 : Int32).toInt64 &&& 63)) ||| (((xs (i + 8)).toInt64) &&& 4294967295)) ((((xs (i + 9)).toInt64) <<< ((32 : Int32).toInt64 &&& 63)) ||| (((xs (i + 10)).toInt64) &&& 4294967295))).2 = fc cx ∧ fs (x_tell cx (xs (i + 1)) ((((xs (i + 2)).toInt64) <<< ((32 : Int32).toInt64 &&& 63)) ||| (((xs (i + 3)).toInt64) &&& 4294967295)) (xs (i + 4)) ((((xs (i + 5)).toInt64) <<< ((32 : Int32).toInt64 &&& 63)) ||| (((xs (i + 6)).toInt64) &&& 4294967295)) ((((xs (i + 7)).toInt64) <<< ((32 : Int32).toInt64 &&& 63)) ||| (((xs (i + 8)).toInt64) &&& 4294967295)) ((((xs (i + 9)).toInt64) <<< ((32 : Int32).toInt64 &&& 63)) ||| (((xs (i + 10)).toInt64) &&& 4294967295))).2 = fs cx := f_tell
  refine lv_aload_n hx hb d_Law_law_240 rfl (lv_at hl 1 rfl) ?_
  refine lv_aload_n hx hb d_Law_law_241 rfl (lv_at hl 3 rfl) ?_
  refine lv_iload_n hx hb d_Law_law_242 rfl (lv_at hl 0 rfl) ?_
  refine lv_iconst (v := 1) hx hb d_Law_law_243 (by decide) ?_
  refine lv_iadd hx hb d_Law_law_244 ?_
  refine sy_ti (y := nI (i + 1)) (nI_add i 1) ?_
  refine va_sld hx hb hX hbl hbA hS (vp_in_nI (n := i + 1) (by omega) (by omega)) d_Law_law_245 ?_
  refine sy_ti (y := xs (i + 1)) (by rw [nI_clamp (by omega)]) ?_
  refine lv_aload_n hx hb d_Law_law_246 rfl (lv_at hl 3 rfl) ?_
  refine lv_iload_n hx hb d_Law_law_247 rfl (lv_at hl 0 rfl) ?_
  refine lv_iconst (v := 2) hx hb d_Law_law_248 (by decide) ?_
  refine lv_iadd hx hb d_Law_law_249 ?_
  refine sy_ti (y := nI (i + 2)) (nI_add i 2) ?_
  refine va_sld hx hb hX hbl hbA hS (vp_in_nI (n := i + 2) (by omega) (by omega)) d_Law_law_250 ?_
  refine sy_ti (y := xs (i + 2)) (by rw [nI_clamp (by omega)]) ?_
  refine lv_i2l (v := (xs (i + 2)).toInt64) hx hb d_Law_law_251 rfl ?_
  refine lv_bipush (v := 32) hx hb d_Law_law_252 (by decide) ?_
  refine lv_lshl (v := ((xs (i + 2)).toInt64) <<< ((32 : Int32).toInt64 &&& 63)) hx hb d_Law_law_254 rfl ?_
  refine lv_aload_n hx hb d_Law_law_255 rfl (lv_at hl 3 rfl) ?_
  refine lv_iload_n hx hb d_Law_law_256 rfl (lv_at hl 0 rfl) ?_
  refine lv_iconst (v := 3) hx hb d_Law_law_257 (by decide) ?_
  refine lv_iadd hx hb d_Law_law_258 ?_
  refine sy_ti (y := nI (i + 3)) (nI_add i 3) ?_
  refine va_sld hx hb hX hbl hbA hS (vp_in_nI (n := i + 3) (by omega) (by omega)) d_Law_law_259 ?_
  refine sy_ti (y := xs (i + 3)) (by rw [nI_clamp (by omega)]) ?_
  refine lv_i2l (v := (xs (i + 3)).toInt64) hx hb d_Law_law_260 rfl ?_
  refine lv_ldc2 (v := 4294967295) hx hb hown (ht _ m_726) d_Law_law_261 ?_
  refine lv_land hx hb d_Law_law_264 ?_
  refine lv_lor hx hb d_Law_law_265 ?_
  refine lv_aload_n hx hb d_Law_law_266 rfl (lv_at hl 3 rfl) ?_
  refine lv_iload_n hx hb d_Law_law_267 rfl (lv_at hl 0 rfl) ?_
  refine lv_iconst (v := 4) hx hb d_Law_law_268 (by decide) ?_
  refine lv_iadd hx hb d_Law_law_269 ?_
  refine sy_ti (y := nI (i + 4)) (nI_add i 4) ?_
  refine va_sld hx hb hX hbl hbA hS (vp_in_nI (n := i + 4) (by omega) (by omega)) d_Law_law_270 ?_
  refine sy_ti (y := xs (i + 4)) (by rw [nI_clamp (by omega)]) ?_
  refine lv_aload_n hx hb d_Law_law_271 rfl (lv_at hl 3 rfl) ?_
  refine lv_iload_n hx hb d_Law_law_272 rfl (lv_at hl 0 rfl) ?_
  refine lv_iconst (v := 5) hx hb d_Law_law_273 (by decide) ?_
  refine lv_iadd hx hb d_Law_law_274 ?_
  refine sy_ti (y := nI (i + 5)) (nI_add i 5) ?_
  refine va_sld hx hb hX hbl hbA hS (vp_in_nI (n := i + 5) (by omega) (by omega)) d_Law_law_275 ?_
  refine sy_ti (y := xs (i + 5)) (by rw [nI_clamp (by omega)]) ?_
  refine lv_i2l (v := (xs (i + 5)).toInt64) hx hb d_Law_law_276 rfl ?_
  refine lv_bipush (v := 32) hx hb d_Law_law_277 (by decide) ?_
  refine lv_lshl (v := ((xs (i + 5)).toInt64) <<< ((32 : Int32).toInt64 &&& 63)) hx hb d_Law_law_279 rfl ?_
  refine lv_aload_n hx hb d_Law_law_280 rfl (lv_at hl 3 rfl) ?_
  refine lv_iload_n hx hb d_Law_law_281 rfl (lv_at hl 0 rfl) ?_
  refine lv_bipush (v := 6) hx hb d_Law_law_282 (by decide) ?_
  refine lv_iadd hx hb d_Law_law_284 ?_
  refine sy_ti (y := nI (i + 6)) (nI_add i 6) ?_
  refine va_sld hx hb hX hbl hbA hS (vp_in_nI (n := i + 6) (by omega) (by omega)) d_Law_law_285 ?_
  refine sy_ti (y := xs (i + 6)) (by rw [nI_clamp (by omega)]) ?_
  refine lv_i2l (v := (xs (i + 6)).toInt64) hx hb d_Law_law_286 rfl ?_
  refine lv_ldc2 (v := 4294967295) hx hb hown (ht _ m_726) d_Law_law_287 ?_
  refine lv_land hx hb d_Law_law_290 ?_
  refine lv_lor hx hb d_Law_law_291 ?_
  refine lv_aload_n hx hb d_Law_law_292 rfl (lv_at hl 3 rfl) ?_
  refine lv_iload_n hx hb d_Law_law_293 rfl (lv_at hl 0 rfl) ?_
  refine lv_bipush (v := 7) hx hb d_Law_law_294 (by decide) ?_
  refine lv_iadd hx hb d_Law_law_296 ?_
  refine sy_ti (y := nI (i + 7)) (nI_add i 7) ?_
  refine va_sld hx hb hX hbl hbA hS (vp_in_nI (n := i + 7) (by omega) (by omega)) d_Law_law_297 ?_
  refine sy_ti (y := xs (i + 7)) (by rw [nI_clamp (by omega)]) ?_
  refine lv_i2l (v := (xs (i + 7)).toInt64) hx hb d_Law_law_298 rfl ?_
  refine lv_bipush (v := 32) hx hb d_Law_law_299 (by decide) ?_
  refine lv_lshl (v := ((xs (i + 7)).toInt64) <<< ((32 : Int32).toInt64 &&& 63)) hx hb d_Law_law_301 rfl ?_
  refine lv_aload_n hx hb d_Law_law_302 rfl (lv_at hl 3 rfl) ?_
  refine lv_iload_n hx hb d_Law_law_303 rfl (lv_at hl 0 rfl) ?_
  refine lv_bipush (v := 8) hx hb d_Law_law_304 (by decide) ?_
  refine lv_iadd hx hb d_Law_law_306 ?_
  refine sy_ti (y := nI (i + 8)) (nI_add i 8) ?_
  refine va_sld hx hb hX hbl hbA hS (vp_in_nI (n := i + 8) (by omega) (by omega)) d_Law_law_307 ?_
  refine sy_ti (y := xs (i + 8)) (by rw [nI_clamp (by omega)]) ?_
  refine lv_i2l (v := (xs (i + 8)).toInt64) hx hb d_Law_law_308 rfl ?_
  refine lv_ldc2 (v := 4294967295) hx hb hown (ht _ m_726) d_Law_law_309 ?_
  refine lv_land hx hb d_Law_law_312 ?_
  refine lv_lor hx hb d_Law_law_313 ?_
  refine lv_aload_n hx hb d_Law_law_314 rfl (lv_at hl 3 rfl) ?_
  refine lv_iload_n hx hb d_Law_law_315 rfl (lv_at hl 0 rfl) ?_
  refine lv_bipush (v := 9) hx hb d_Law_law_316 (by decide) ?_
  refine lv_iadd hx hb d_Law_law_318 ?_
  refine sy_ti (y := nI (i + 9)) (nI_add i 9) ?_
  refine va_sld hx hb hX hbl hbA hS (vp_in_nI (n := i + 9) (by omega) (by omega)) d_Law_law_319 ?_
  refine sy_ti (y := xs (i + 9)) (by rw [nI_clamp (by omega)]) ?_
  refine lv_i2l (v := (xs (i + 9)).toInt64) hx hb d_Law_law_320 rfl ?_
  refine lv_bipush (v := 32) hx hb d_Law_law_321 (by decide) ?_
  refine lv_lshl (v := ((xs (i + 9)).toInt64) <<< ((32 : Int32).toInt64 &&& 63)) hx hb d_Law_law_323 rfl ?_
  refine lv_aload_n hx hb d_Law_law_324 rfl (lv_at hl 3 rfl) ?_
  refine lv_iload_n hx hb d_Law_law_325 rfl (lv_at hl 0 rfl) ?_
  refine lv_bipush (v := 10) hx hb d_Law_law_326 (by decide) ?_
  refine lv_iadd hx hb d_Law_law_328 ?_
  refine sy_ti (y := nI (i + 10)) (nI_add i 10) ?_
  refine va_sld hx hb hX hbl hbA hS (vp_in_nI (n := i + 10) (by omega) (by omega)) d_Law_law_329 ?_
  refine sy_ti (y := xs (i + 10)) (by rw [nI_clamp (by omega)]) ?_
  refine lv_i2l (v := (xs (i + 10)).toInt64) hx hb d_Law_law_330 rfl ?_
  refine lv_ldc2 (v := 4294967295) hx hb hown (ht _ m_726) d_Law_law_331 ?_
  refine lv_land hx hb d_Law_law_334 ?_
  refine lv_lor hx hb d_Law_law_335 ?_
  refine va_calli (sy_runV (As := [.int (xs (i + 1)), .long ((((xs (i + 2)).toInt64) <<< ((32 : Int32).toInt64 &&& 63)) ||| (((xs (i + 3)).toInt64) &&& 4294967295)), .int (xs (i + 4)), .long ((((xs (i + 5)).toInt64) <<< ((32 : Int32).toInt64 &&& 63)) ||| (((xs (i + 6)).toInt64) &&& 4294967295)), .long ((((xs (i + 7)).toInt64) <<< ((32 : Int32).toInt64 &&& 63)) ||| (((xs (i + 8)).toInt64) &&& 4294967295)), .long ((((xs (i + 9)).toInt64) <<< ((32 : Int32).toInt64 &&& 63)) ||| (((xs (i + 10)).toInt64) &&& 4294967295))]) (rest := [.int ((x_tell cx (xs (i + 1)) ((((xs (i + 2)).toInt64) <<< ((32 : Int32).toInt64 &&& 63)) ||| (((xs (i + 3)).toInt64) &&& 4294967295)) (xs (i + 4)) ((((xs (i + 5)).toInt64) <<< ((32 : Int32).toInt64 &&& 63)) ||| (((xs (i + 6)).toInt64) &&& 4294967295)) ((((xs (i + 7)).toInt64) <<< ((32 : Int32).toInt64 &&& 63)) ||| (((xs (i + 8)).toInt64) &&& 4294967295)) ((((xs (i + 9)).toInt64) <<< ((32 : Int32).toInt64 &&& 63)) ||| (((xs (i + 10)).toInt64) &&& 4294967295))).1)]) (b := ob) ⟨hx, hb, hml, hown, ht⟩ cl_Law_24 (c_Model_tell l G ob ad sc mI mL mZ (xs (i + 1)) ((((xs (i + 2)).toInt64) <<< ((32 : Int32).toInt64 &&& 63)) ||| (((xs (i + 3)).toInt64) &&& 4294967295)) (xs (i + 4)) ((((xs (i + 5)).toInt64) <<< ((32 : Int32).toInt64 &&& 63)) ||| (((xs (i + 6)).toInt64) &&& 4294967295)) ((((xs (i + 7)).toInt64) <<< ((32 : Int32).toInt64 &&& 63)) ||| (((xs (i + 8)).toInt64) &&& 4294967295)) ((((xs (i + 9)).toInt64) <<< ((32 : Int32).toInt64 &&& 63)) ||| (((xs (i + 10)).toInt64) &&& 4294967295)) (by omega) (by omega)) hK ⟨hM, sy_any hMD⟩ (va_recv hK.1 hM (ci := 7) (q0 := 0) rfl rfl) rfl nm_Model_tell rfl rfl ⟨Nat.le_of_ble_eq_true rfl, Nat.le_of_ble_eq_true rfl⟩ hl.1 (Nat.le_of_ble_eq_true rfl) d_Law_law_336 ⟨hrc, hrs⟩) hS (fun q _ h => sy_in hMD h) (fun q h => sy_in hMD h) (fun r9 u9 t9 H9 locs ht9 hvm9 hw9 hB9 hz9 hk9 hS => ?_)
  obtain ⟨hr9, hu9⟩ := hw9
  subst hr9
  subst hu9
  rw [ht9] at hB9
  have hSP : sys_P G g (x_tell cx (xs (i + 1)) ((((xs (i + 2)).toInt64) <<< ((32 : Int32).toInt64 &&& 63)) ||| (((xs (i + 3)).toInt64) &&& 4294967295)) (xs (i + 4)) ((((xs (i + 5)).toInt64) <<< ((32 : Int32).toInt64 &&& 63)) ||| (((xs (i + 6)).toInt64) &&& 4294967295)) ((((xs (i + 7)).toInt64) <<< ((32 : Int32).toInt64 &&& 63)) ||| (((xs (i + 8)).toInt64) &&& 4294967295)) ((((xs (i + 9)).toInt64) <<< ((32 : Int32).toInt64 &&& 63)) ||| (((xs (i + 10)).toInt64) &&& 4294967295))).2 H9 := lx_S hSP hap hk9
  have hM : va_P G.1 classes (mw G.2 ob ad (mo_tell sc mI mL mZ (xs (i + 1)) ((((xs (i + 2)).toInt64) <<< ((32 : Int32).toInt64 &&& 63)) ||| (((xs (i + 3)).toInt64) &&& 4294967295)) (xs (i + 4)) ((((xs (i + 5)).toInt64) <<< ((32 : Int32).toInt64 &&& 63)) ||| (((xs (i + 6)).toInt64) &&& 4294967295)) ((((xs (i + 7)).toInt64) <<< ((32 : Int32).toInt64 &&& 63)) ||| (((xs (i + 8)).toInt64) &&& 4294967295)) ((((xs (i + 9)).toInt64) <<< ((32 : Int32).toInt64 &&& 63)) ||| (((xs (i + 10)).toInt64) &&& 4294967295))).2.1 (mo_tell sc mI mL mZ (xs (i + 1)) ((((xs (i + 2)).toInt64) <<< ((32 : Int32).toInt64 &&& 63)) ||| (((xs (i + 3)).toInt64) &&& 4294967295)) (xs (i + 4)) ((((xs (i + 5)).toInt64) <<< ((32 : Int32).toInt64 &&& 63)) ||| (((xs (i + 6)).toInt64) &&& 4294967295)) ((((xs (i + 7)).toInt64) <<< ((32 : Int32).toInt64 &&& 63)) ||| (((xs (i + 8)).toInt64) &&& 4294967295)) ((((xs (i + 9)).toInt64) <<< ((32 : Int32).toInt64 &&& 63)) ||| (((xs (i + 10)).toInt64) &&& 4294967295))).2.2.1 (mo_tell sc mI mL mZ (xs (i + 1)) ((((xs (i + 2)).toInt64) <<< ((32 : Int32).toInt64 &&& 63)) ||| (((xs (i + 3)).toInt64) &&& 4294967295)) (xs (i + 4)) ((((xs (i + 5)).toInt64) <<< ((32 : Int32).toInt64 &&& 63)) ||| (((xs (i + 6)).toInt64) &&& 4294967295)) ((((xs (i + 7)).toInt64) <<< ((32 : Int32).toInt64 &&& 63)) ||| (((xs (i + 8)).toInt64) &&& 4294967295)) ((((xs (i + 9)).toInt64) <<< ((32 : Int32).toInt64 &&& 63)) ||| (((xs (i + 10)).toInt64) &&& 4294967295))).2.2.2.1 (mo_tell sc mI mL mZ (xs (i + 1)) ((((xs (i + 2)).toInt64) <<< ((32 : Int32).toInt64 &&& 63)) ||| (((xs (i + 3)).toInt64) &&& 4294967295)) (xs (i + 4)) ((((xs (i + 5)).toInt64) <<< ((32 : Int32).toInt64 &&& 63)) ||| (((xs (i + 6)).toInt64) &&& 4294967295)) ((((xs (i + 7)).toInt64) <<< ((32 : Int32).toInt64 &&& 63)) ||| (((xs (i + 8)).toInt64) &&& 4294967295)) ((((xs (i + 9)).toInt64) <<< ((32 : Int32).toInt64 &&& 63)) ||| (((xs (i + 10)).toInt64) &&& 4294967295))).2.2.2.2) H9 := hB9
  have hMD : va_D (fun q => s.heap.size ≤ q) (mw G.2 ob ad (mo_tell sc mI mL mZ (xs (i + 1)) ((((xs (i + 2)).toInt64) <<< ((32 : Int32).toInt64 &&& 63)) ||| (((xs (i + 3)).toInt64) &&& 4294967295)) (xs (i + 4)) ((((xs (i + 5)).toInt64) <<< ((32 : Int32).toInt64 &&& 63)) ||| (((xs (i + 6)).toInt64) &&& 4294967295)) ((((xs (i + 7)).toInt64) <<< ((32 : Int32).toInt64 &&& 63)) ||| (((xs (i + 8)).toInt64) &&& 4294967295)) ((((xs (i + 9)).toInt64) <<< ((32 : Int32).toInt64 &&& 63)) ||| (((xs (i + 10)).toInt64) &&& 4294967295))).2.1 (mo_tell sc mI mL mZ (xs (i + 1)) ((((xs (i + 2)).toInt64) <<< ((32 : Int32).toInt64 &&& 63)) ||| (((xs (i + 3)).toInt64) &&& 4294967295)) (xs (i + 4)) ((((xs (i + 5)).toInt64) <<< ((32 : Int32).toInt64 &&& 63)) ||| (((xs (i + 6)).toInt64) &&& 4294967295)) ((((xs (i + 7)).toInt64) <<< ((32 : Int32).toInt64 &&& 63)) ||| (((xs (i + 8)).toInt64) &&& 4294967295)) ((((xs (i + 9)).toInt64) <<< ((32 : Int32).toInt64 &&& 63)) ||| (((xs (i + 10)).toInt64) &&& 4294967295))).2.2.1 (mo_tell sc mI mL mZ (xs (i + 1)) ((((xs (i + 2)).toInt64) <<< ((32 : Int32).toInt64 &&& 63)) ||| (((xs (i + 3)).toInt64) &&& 4294967295)) (xs (i + 4)) ((((xs (i + 5)).toInt64) <<< ((32 : Int32).toInt64 &&& 63)) ||| (((xs (i + 6)).toInt64) &&& 4294967295)) ((((xs (i + 7)).toInt64) <<< ((32 : Int32).toInt64 &&& 63)) ||| (((xs (i + 8)).toInt64) &&& 4294967295)) ((((xs (i + 9)).toInt64) <<< ((32 : Int32).toInt64 &&& 63)) ||| (((xs (i + 10)).toInt64) &&& 4294967295))).2.2.2.1 (mo_tell sc mI mL mZ (xs (i + 1)) ((((xs (i + 2)).toInt64) <<< ((32 : Int32).toInt64 &&& 63)) ||| (((xs (i + 3)).toInt64) &&& 4294967295)) (xs (i + 4)) ((((xs (i + 5)).toInt64) <<< ((32 : Int32).toInt64 &&& 63)) ||| (((xs (i + 6)).toInt64) &&& 4294967295)) ((((xs (i + 7)).toInt64) <<< ((32 : Int32).toInt64 &&& 63)) ||| (((xs (i + 8)).toInt64) &&& 4294967295)) ((((xs (i + 9)).toInt64) <<< ((32 : Int32).toInt64 &&& 63)) ||| (((xs (i + 10)).toInt64) &&& 4294967295))).2.2.2.2) := sy_Da hMD rfl
  have hap : ∀ q, sys_A G g (x_tell cx (xs (i + 1)) ((((xs (i + 2)).toInt64) <<< ((32 : Int32).toInt64 &&& 63)) ||| (((xs (i + 3)).toInt64) &&& 4294967295)) (xs (i + 4)) ((((xs (i + 5)).toInt64) <<< ((32 : Int32).toInt64 &&& 63)) ||| (((xs (i + 6)).toInt64) &&& 4294967295)) ((((xs (i + 7)).toInt64) <<< ((32 : Int32).toInt64 &&& 63)) ||| (((xs (i + 8)).toInt64) &&& 4294967295)) ((((xs (i + 9)).toInt64) <<< ((32 : Int32).toInt64 &&& 63)) ||| (((xs (i + 10)).toInt64) &&& 4294967295))).2 q → ¬ sy_A (mw G.2 ob ad (mo_tell sc mI mL mZ (xs (i + 1)) ((((xs (i + 2)).toInt64) <<< ((32 : Int32).toInt64 &&& 63)) ||| (((xs (i + 3)).toInt64) &&& 4294967295)) (xs (i + 4)) ((((xs (i + 5)).toInt64) <<< ((32 : Int32).toInt64 &&& 63)) ||| (((xs (i + 6)).toInt64) &&& 4294967295)) ((((xs (i + 7)).toInt64) <<< ((32 : Int32).toInt64 &&& 63)) ||| (((xs (i + 8)).toInt64) &&& 4294967295)) ((((xs (i + 9)).toInt64) <<< ((32 : Int32).toInt64 &&& 63)) ||| (((xs (i + 10)).toInt64) &&& 4294967295))).2.1 (mo_tell sc mI mL mZ (xs (i + 1)) ((((xs (i + 2)).toInt64) <<< ((32 : Int32).toInt64 &&& 63)) ||| (((xs (i + 3)).toInt64) &&& 4294967295)) (xs (i + 4)) ((((xs (i + 5)).toInt64) <<< ((32 : Int32).toInt64 &&& 63)) ||| (((xs (i + 6)).toInt64) &&& 4294967295)) ((((xs (i + 7)).toInt64) <<< ((32 : Int32).toInt64 &&& 63)) ||| (((xs (i + 8)).toInt64) &&& 4294967295)) ((((xs (i + 9)).toInt64) <<< ((32 : Int32).toInt64 &&& 63)) ||| (((xs (i + 10)).toInt64) &&& 4294967295))).2.2.1 (mo_tell sc mI mL mZ (xs (i + 1)) ((((xs (i + 2)).toInt64) <<< ((32 : Int32).toInt64 &&& 63)) ||| (((xs (i + 3)).toInt64) &&& 4294967295)) (xs (i + 4)) ((((xs (i + 5)).toInt64) <<< ((32 : Int32).toInt64 &&& 63)) ||| (((xs (i + 6)).toInt64) &&& 4294967295)) ((((xs (i + 7)).toInt64) <<< ((32 : Int32).toInt64 &&& 63)) ||| (((xs (i + 8)).toInt64) &&& 4294967295)) ((((xs (i + 9)).toInt64) <<< ((32 : Int32).toInt64 &&& 63)) ||| (((xs (i + 10)).toInt64) &&& 4294967295))).2.2.2.1 (mo_tell sc mI mL mZ (xs (i + 1)) ((((xs (i + 2)).toInt64) <<< ((32 : Int32).toInt64 &&& 63)) ||| (((xs (i + 3)).toInt64) &&& 4294967295)) (xs (i + 4)) ((((xs (i + 5)).toInt64) <<< ((32 : Int32).toInt64 &&& 63)) ||| (((xs (i + 6)).toInt64) &&& 4294967295)) ((((xs (i + 7)).toInt64) <<< ((32 : Int32).toInt64 &&& 63)) ||| (((xs (i + 8)).toInt64) &&& 4294967295)) ((((xs (i + 9)).toInt64) <<< ((32 : Int32).toInt64 &&& 63)) ||| (((xs (i + 10)).toInt64) &&& 4294967295))).2.2.2.2) q := fun q h h2 => hap q h (sy_Aa (ws := mw G.2 ob ad sc mI mL mZ) (ws' := mw G.2 ob ad (mo_tell sc mI mL mZ (xs (i + 1)) ((((xs (i + 2)).toInt64) <<< ((32 : Int32).toInt64 &&& 63)) ||| (((xs (i + 3)).toInt64) &&& 4294967295)) (xs (i + 4)) ((((xs (i + 5)).toInt64) <<< ((32 : Int32).toInt64 &&& 63)) ||| (((xs (i + 6)).toInt64) &&& 4294967295)) ((((xs (i + 7)).toInt64) <<< ((32 : Int32).toInt64 &&& 63)) ||| (((xs (i + 8)).toInt64) &&& 4294967295)) ((((xs (i + 9)).toInt64) <<< ((32 : Int32).toInt64 &&& 63)) ||| (((xs (i + 10)).toInt64) &&& 4294967295))).2.1 (mo_tell sc mI mL mZ (xs (i + 1)) ((((xs (i + 2)).toInt64) <<< ((32 : Int32).toInt64 &&& 63)) ||| (((xs (i + 3)).toInt64) &&& 4294967295)) (xs (i + 4)) ((((xs (i + 5)).toInt64) <<< ((32 : Int32).toInt64 &&& 63)) ||| (((xs (i + 6)).toInt64) &&& 4294967295)) ((((xs (i + 7)).toInt64) <<< ((32 : Int32).toInt64 &&& 63)) ||| (((xs (i + 8)).toInt64) &&& 4294967295)) ((((xs (i + 9)).toInt64) <<< ((32 : Int32).toInt64 &&& 63)) ||| (((xs (i + 10)).toInt64) &&& 4294967295))).2.2.1 (mo_tell sc mI mL mZ (xs (i + 1)) ((((xs (i + 2)).toInt64) <<< ((32 : Int32).toInt64 &&& 63)) ||| (((xs (i + 3)).toInt64) &&& 4294967295)) (xs (i + 4)) ((((xs (i + 5)).toInt64) <<< ((32 : Int32).toInt64 &&& 63)) ||| (((xs (i + 6)).toInt64) &&& 4294967295)) ((((xs (i + 7)).toInt64) <<< ((32 : Int32).toInt64 &&& 63)) ||| (((xs (i + 8)).toInt64) &&& 4294967295)) ((((xs (i + 9)).toInt64) <<< ((32 : Int32).toInt64 &&& 63)) ||| (((xs (i + 10)).toInt64) &&& 4294967295))).2.2.2.1 (mo_tell sc mI mL mZ (xs (i + 1)) ((((xs (i + 2)).toInt64) <<< ((32 : Int32).toInt64 &&& 63)) ||| (((xs (i + 3)).toInt64) &&& 4294967295)) (xs (i + 4)) ((((xs (i + 5)).toInt64) <<< ((32 : Int32).toInt64 &&& 63)) ||| (((xs (i + 6)).toInt64) &&& 4294967295)) ((((xs (i + 7)).toInt64) <<< ((32 : Int32).toInt64 &&& 63)) ||| (((xs (i + 8)).toInt64) &&& 4294967295)) ((((xs (i + 9)).toInt64) <<< ((32 : Int32).toInt64 &&& 63)) ||| (((xs (i + 10)).toInt64) &&& 4294967295))).2.2.2.2) rfl h2)
  generalize H9 = H at hSP hM hS ⊢
  have hE := e_tell hR (xs (i + 1)) ((((xs (i + 2)).toInt64) <<< ((32 : Int32).toInt64 &&& 63)) ||| (((xs (i + 3)).toInt64) &&& 4294967295)) (xs (i + 4)) ((((xs (i + 5)).toInt64) <<< ((32 : Int32).toInt64 &&& 63)) ||| (((xs (i + 6)).toInt64) &&& 4294967295)) ((((xs (i + 7)).toInt64) <<< ((32 : Int32).toInt64 &&& 63)) ||| (((xs (i + 8)).toInt64) &&& 4294967295)) ((((xs (i + 9)).toInt64) <<< ((32 : Int32).toInt64 &&& 63)) ||| (((xs (i + 10)).toInt64) &&& 4294967295))
  have hE9 := hE.1
  have hR := hE.2
  have hq4 : (mo_tell sc mI mL mZ (xs (i + 1)) ((((xs (i + 2)).toInt64) <<< ((32 : Int32).toInt64 &&& 63)) ||| (((xs (i + 3)).toInt64) &&& 4294967295)) (xs (i + 4)) ((((xs (i + 5)).toInt64) <<< ((32 : Int32).toInt64 &&& 63)) ||| (((xs (i + 6)).toInt64) &&& 4294967295)) ((((xs (i + 7)).toInt64) <<< ((32 : Int32).toInt64 &&& 63)) ||| (((xs (i + 8)).toInt64) &&& 4294967295)) ((((xs (i + 9)).toInt64) <<< ((32 : Int32).toInt64 &&& 63)) ||| (((xs (i + 10)).toInt64) &&& 4294967295))).2.1 4 ≤ sc 4 + 1 := q_tell
  refine lv_icmp_eq (tgt := 1384) hx hb d_Law_law_339 (by decide) (fun c_1 => ?_) (fun c_1 => ?_)
  · rw [← hf9.1, ← hf9.2]
    exact kk g (x_tell cx (xs (i + 1)) ((((xs (i + 2)).toInt64) <<< ((32 : Int32).toInt64 &&& 63)) ||| (((xs (i + 3)).toInt64) &&& 4294967295)) (xs (i + 4)) ((((xs (i + 5)).toInt64) <<< ((32 : Int32).toInt64 &&& 63)) ||| (((xs (i + 6)).toInt64) &&& 4294967295)) ((((xs (i + 7)).toInt64) <<< ((32 : Int32).toInt64 &&& 63)) ||| (((xs (i + 8)).toInt64) &&& 4294967295)) ((((xs (i + 9)).toInt64) <<< ((32 : Int32).toInt64 &&& 63)) ||| (((xs (i + 10)).toInt64) &&& 4294967295))).2 (mo_tell sc mI mL mZ (xs (i + 1)) ((((xs (i + 2)).toInt64) <<< ((32 : Int32).toInt64 &&& 63)) ||| (((xs (i + 3)).toInt64) &&& 4294967295)) (xs (i + 4)) ((((xs (i + 5)).toInt64) <<< ((32 : Int32).toInt64 &&& 63)) ||| (((xs (i + 6)).toInt64) &&& 4294967295)) ((((xs (i + 7)).toInt64) <<< ((32 : Int32).toInt64 &&& 63)) ||| (((xs (i + 8)).toInt64) &&& 4294967295)) ((((xs (i + 9)).toInt64) <<< ((32 : Int32).toInt64 &&& 63)) ||| (((xs (i + 10)).toInt64) &&& 4294967295))).2.1 (mo_tell sc mI mL mZ (xs (i + 1)) ((((xs (i + 2)).toInt64) <<< ((32 : Int32).toInt64 &&& 63)) ||| (((xs (i + 3)).toInt64) &&& 4294967295)) (xs (i + 4)) ((((xs (i + 5)).toInt64) <<< ((32 : Int32).toInt64 &&& 63)) ||| (((xs (i + 6)).toInt64) &&& 4294967295)) ((((xs (i + 7)).toInt64) <<< ((32 : Int32).toInt64 &&& 63)) ||| (((xs (i + 8)).toInt64) &&& 4294967295)) ((((xs (i + 9)).toInt64) <<< ((32 : Int32).toInt64 &&& 63)) ||| (((xs (i + 10)).toInt64) &&& 4294967295))).2.2.1 (mo_tell sc mI mL mZ (xs (i + 1)) ((((xs (i + 2)).toInt64) <<< ((32 : Int32).toInt64 &&& 63)) ||| (((xs (i + 3)).toInt64) &&& 4294967295)) (xs (i + 4)) ((((xs (i + 5)).toInt64) <<< ((32 : Int32).toInt64 &&& 63)) ||| (((xs (i + 6)).toInt64) &&& 4294967295)) ((((xs (i + 7)).toInt64) <<< ((32 : Int32).toInt64 &&& 63)) ||| (((xs (i + 8)).toInt64) &&& 4294967295)) ((((xs (i + 9)).toInt64) <<< ((32 : Int32).toInt64 &&& 63)) ||| (((xs (i + 10)).toInt64) &&& 4294967295))).2.2.2.1 (mo_tell sc mI mL mZ (xs (i + 1)) ((((xs (i + 2)).toInt64) <<< ((32 : Int32).toInt64 &&& 63)) ||| (((xs (i + 3)).toInt64) &&& 4294967295)) (xs (i + 4)) ((((xs (i + 5)).toInt64) <<< ((32 : Int32).toInt64 &&& 63)) ||| (((xs (i + 6)).toInt64) &&& 4294967295)) ((((xs (i + 7)).toInt64) <<< ((32 : Int32).toInt64 &&& 63)) ||| (((xs (i + 8)).toInt64) &&& 4294967295)) ((((xs (i + 9)).toInt64) <<< ((32 : Int32).toInt64 &&& 63)) ||| (((xs (i + 10)).toInt64) &&& 4294967295))).2.2.2.2 _ _ rfl ⟨hSP, hSD, hM, hMD, hap, hS, hR, by omega⟩
  · exact absurd hE9 c_1
set_option maxHeartbeats 4000000 in
set_option maxRecDepth 100000 in
theorem law_c2 {p : Program} {l : Launch} {e : Env} {s : State} {m : MethodId} {below : List Frame} {meth : Method} {c : Code} {b L : Nat} {xs : Nat → Int32} (hL : L ≤ 5632) (C0 : lw_At p s m meth c b L xs) {G : sy_G} (hK : sy_K G s) {g : Nat → Nat} {cx : cs} {ob : Nat} {ad : Nat → Nat} {sc : Nat → Nat} {mI : Nat → Nat → Int32} {mL : Nat → Nat → Int64} {mZ : Nat → Nat → Bool} {H : Heap} {locs : List Loc} {i : Nat} (hi : i + 11 ≤ L) {Q : State → Prop} (hLW : LW s G g cx ob ad sc mI mL mZ i H locs) {ls : Array Slot} (hl : lv_has ls 4 [(3, .int (nI i)), (2, .ref ob), (1, .ref (g 0)), (0, .ref b)])
    (kk : ∀ (g9 : Nat → Nat) (cx9 : cs) (sc9 : Nat → Nat) (mI9 : Nat → Nat → Int32) (mL9 : Nat → Nat → Int64) (mZ9 : Nat → Nat → Bool) (H9 : Heap) (locs9 : List Loc), g9 0 = g 0 → LW s G g9 cx9 ob ad sc9 mI9 mL9 mZ9 (i + 1) H9 locs9 → W p l e room_1 s m #[Value.ref b] below meth c H9 locs9 (fc cx9) (fs cx9) Q (F0 m 1384 ls [])) :
    W p l e room_1 s m #[Value.ref b] below meth c H locs (fc cx) (fs cx) Q (F0 m 344 ls []) := by
  obtain ⟨hx, hb, hr, hml, hown0, hts, hX, hbl, hlocks, hgv⟩ := C0
  obtain ⟨hSP, hSD, hM, hMD, hap, hS, hR, h4n⟩ := hLW
  have hown : s.vm.findClass R_Law = some m.cls := hown0
  have ht : ∀ wd ∈ sy_T, wd.before #[Value.ref b] s = true := fun wd h => hts wd (List.mem_filter.mp h).1
  have hbA : ¬ (fun q : Nat => s.heap.size ≤ q) b := Nat.not_le.mpr hbl
  have e0 := hR.s0
  have e1 := hR.s1
  have e2 := hR.s2
  have e3 := hR.s3
  have e4 := hR.s4
  have b0 := hR.b0
  have b1 := hR.b1
  have b2 := hR.b2
  have b3 := hR.b3
  have hcb : cs_b cx := cs_bR hR (by omega)
  obtain ⟨hd, hs, hn, hc, hm, hb4⟩ := id hcb
  have hrc : fc cx + 0 ≤ room_1.cells := by show _ ≤ 600000; unfold fc; omega
  have hrs : fs cx + 0 ≤ room_1.slots := by show _ ≤ 7302250; unfold fs; omega
  refine lv_aload_n hx hb d_Law_law_344 rfl (lv_at hl 2 rfl) ?_
  refine lv_aload_n hx hb d_Law_law_345 rfl (lv_at hl 3 rfl) ?_
  refine lv_iload_n hx hb d_Law_law_346 rfl (lv_at hl 0 rfl) ?_
  refine lv_iconst (v := 1) hx hb d_Law_law_347 (by decide) ?_
  refine lv_iadd hx hb d_Law_law_348 ?_
  refine sy_ti (y := nI (i + 1)) (nI_add i 1) ?_
  refine va_sld hx hb hX hbl hbA hS (vp_in_nI (n := i + 1) (by omega) (by omega)) d_Law_law_349 ?_
  refine sy_ti (y := xs (i + 1)) (by rw [nI_clamp (by omega)]) ?_
  refine lv_aload_n hx hb d_Law_law_350 rfl (lv_at hl 3 rfl) ?_
  refine lv_iload_n hx hb d_Law_law_351 rfl (lv_at hl 0 rfl) ?_
  refine lv_iconst (v := 2) hx hb d_Law_law_352 (by decide) ?_
  refine lv_iadd hx hb d_Law_law_353 ?_
  refine sy_ti (y := nI (i + 2)) (nI_add i 2) ?_
  refine va_sld hx hb hX hbl hbA hS (vp_in_nI (n := i + 2) (by omega) (by omega)) d_Law_law_354 ?_
  refine sy_ti (y := xs (i + 2)) (by rw [nI_clamp (by omega)]) ?_
  refine lv_i2l (v := (xs (i + 2)).toInt64) hx hb d_Law_law_355 rfl ?_
  refine lv_bipush (v := 32) hx hb d_Law_law_356 (by decide) ?_
  refine lv_lshl (v := ((xs (i + 2)).toInt64) <<< ((32 : Int32).toInt64 &&& 63)) hx hb d_Law_law_358 rfl ?_
  refine lv_aload_n hx hb d_Law_law_359 rfl (lv_at hl 3 rfl) ?_
  refine lv_iload_n hx hb d_Law_law_360 rfl (lv_at hl 0 rfl) ?_
  refine lv_iconst (v := 3) hx hb d_Law_law_361 (by decide) ?_
  refine lv_iadd hx hb d_Law_law_362 ?_
  refine sy_ti (y := nI (i + 3)) (nI_add i 3) ?_
  refine va_sld hx hb hX hbl hbA hS (vp_in_nI (n := i + 3) (by omega) (by omega)) d_Law_law_363 ?_
  refine sy_ti (y := xs (i + 3)) (by rw [nI_clamp (by omega)]) ?_
  refine lv_i2l (v := (xs (i + 3)).toInt64) hx hb d_Law_law_364 rfl ?_
  refine lv_ldc2 (v := 4294967295) hx hb hown (ht _ m_726) d_Law_law_365 ?_
  refine lv_land hx hb d_Law_law_368 ?_
  refine lv_lor hx hb d_Law_law_369 ?_
  refine va_calli (sy_runV (As := [.int (xs (i + 1)), .long ((((xs (i + 2)).toInt64) <<< ((32 : Int32).toInt64 &&& 63)) ||| (((xs (i + 3)).toInt64) &&& 4294967295))]) (rest := []) (b := g 0) ⟨hx, hb, hml, hown, ht⟩ cl_Law_25 (s_reset l G g cx hcb (xs (i + 1)) ((((xs (i + 2)).toInt64) <<< ((32 : Int32).toInt64 &&& 63)) ||| (((xs (i + 3)).toInt64) &&& 4294967295))) hK ⟨hSP, ss_anyD hSD⟩ (va_recv hK.1 (sys_x hSP) (ci := 0) (q0 := 0) rfl rfl) rfl nm_DeviceSets_reset rfl rfl ⟨Nat.le_of_ble_eq_true rfl, Nat.le_of_ble_eq_true rfl⟩ hl.1 (Nat.le_of_ble_eq_true rfl) d_Law_law_370 ⟨hrc, hrs⟩) hS (fun q _ h => ss_in hSD h) (fun q h => ss_in hSD h) (fun r9 u9 t9 H9 locs ht9 hvm9 hw9 hB9 hz9 hk9 hS => ?_)
  obtain ⟨hr9, hu9⟩ := hw9
  subst hr9
  subst hu9
  rw [ht9] at hB9
  have hM : va_P G.1 classes (mw G.2 ob ad sc mI mL mZ) H9 := lx_M hM hap hk9
  have hxa : ∀ i9 : sid, (sy_cell G.2 g (x_reset cx (xs (i + 1)) ((((xs (i + 2)).toInt64) <<< ((32 : Int32).toInt64 &&& 63)) ||| (((xs (i + 3)).toInt64) &&& 4294967295))).2 i9).map Prod.fst = (sy_cell G.2 g cx i9).map Prod.fst := fun i9 => xa_reset i9
  have hSP : sys_P G g (x_reset cx (xs (i + 1)) ((((xs (i + 2)).toInt64) <<< ((32 : Int32).toInt64 &&& 63)) ||| (((xs (i + 3)).toInt64) &&& 4294967295))).2 H9 := hB9
  have hSD : sys_D (fun q => s.heap.size ≤ q) G g (x_reset cx (xs (i + 1)) ((((xs (i + 2)).toInt64) <<< ((32 : Int32).toInt64 &&& 63)) ||| (((xs (i + 3)).toInt64) &&& 4294967295))).2 := ss_setD hSD hxa
  have hap : ∀ q, sys_A G g (x_reset cx (xs (i + 1)) ((((xs (i + 2)).toInt64) <<< ((32 : Int32).toInt64 &&& 63)) ||| (((xs (i + 3)).toInt64) &&& 4294967295))).2 q → ¬ sy_A (mw G.2 ob ad sc mI mL mZ) q := fun q h => hap q (ss_Aa hxa h)
  generalize H9 = H at hSP hM hS ⊢
  have hf9 : fc (x_reset cx (xs (i + 1)) ((((xs (i + 2)).toInt64) <<< ((32 : Int32).toInt64 &&& 63)) ||| (((xs (i + 3)).toInt64) &&& 4294967295))).2 = fc cx ∧ fs (x_reset cx (xs (i + 1)) ((((xs (i + 2)).toInt64) <<< ((32 : Int32).toInt64 &&& 63)) ||| (((xs (i + 3)).toInt64) &&& 4294967295))).2 = fs cx := f_reset
  refine lv_aload_n hx hb d_Law_law_373 rfl (lv_at hl 1 rfl) ?_
  refine lv_aload_n hx hb d_Law_law_374 rfl (lv_at hl 3 rfl) ?_
  refine lv_iload_n hx hb d_Law_law_375 rfl (lv_at hl 0 rfl) ?_
  refine lv_iconst (v := 1) hx hb d_Law_law_376 (by decide) ?_
  refine lv_iadd hx hb d_Law_law_377 ?_
  refine sy_ti (y := nI (i + 1)) (nI_add i 1) ?_
  refine va_sld hx hb hX hbl hbA hS (vp_in_nI (n := i + 1) (by omega) (by omega)) d_Law_law_378 ?_
  refine sy_ti (y := xs (i + 1)) (by rw [nI_clamp (by omega)]) ?_
  refine lv_aload_n hx hb d_Law_law_379 rfl (lv_at hl 3 rfl) ?_
  refine lv_iload_n hx hb d_Law_law_380 rfl (lv_at hl 0 rfl) ?_
  refine lv_iconst (v := 2) hx hb d_Law_law_381 (by decide) ?_
  refine lv_iadd hx hb d_Law_law_382 ?_
  refine sy_ti (y := nI (i + 2)) (nI_add i 2) ?_
  refine va_sld hx hb hX hbl hbA hS (vp_in_nI (n := i + 2) (by omega) (by omega)) d_Law_law_383 ?_
  refine sy_ti (y := xs (i + 2)) (by rw [nI_clamp (by omega)]) ?_
  refine lv_i2l (v := (xs (i + 2)).toInt64) hx hb d_Law_law_384 rfl ?_
  refine lv_bipush (v := 32) hx hb d_Law_law_385 (by decide) ?_
  refine lv_lshl (v := ((xs (i + 2)).toInt64) <<< ((32 : Int32).toInt64 &&& 63)) hx hb d_Law_law_387 rfl ?_
  refine lv_aload_n hx hb d_Law_law_388 rfl (lv_at hl 3 rfl) ?_
  refine lv_iload_n hx hb d_Law_law_389 rfl (lv_at hl 0 rfl) ?_
  refine lv_iconst (v := 3) hx hb d_Law_law_390 (by decide) ?_
  refine lv_iadd hx hb d_Law_law_391 ?_
  refine sy_ti (y := nI (i + 3)) (nI_add i 3) ?_
  refine va_sld hx hb hX hbl hbA hS (vp_in_nI (n := i + 3) (by omega) (by omega)) d_Law_law_392 ?_
  refine sy_ti (y := xs (i + 3)) (by rw [nI_clamp (by omega)]) ?_
  refine lv_i2l (v := (xs (i + 3)).toInt64) hx hb d_Law_law_393 rfl ?_
  refine lv_ldc2 (v := 4294967295) hx hb hown (ht _ m_726) d_Law_law_394 ?_
  refine lv_land hx hb d_Law_law_397 ?_
  refine lv_lor hx hb d_Law_law_398 ?_
  refine va_calli (sy_runV (As := [.int (xs (i + 1)), .long ((((xs (i + 2)).toInt64) <<< ((32 : Int32).toInt64 &&& 63)) ||| (((xs (i + 3)).toInt64) &&& 4294967295))]) (rest := [.int (bI ((x_reset cx (xs (i + 1)) ((((xs (i + 2)).toInt64) <<< ((32 : Int32).toInt64 &&& 63)) ||| (((xs (i + 3)).toInt64) &&& 4294967295))).1))]) (b := ob) ⟨hx, hb, hml, hown, ht⟩ cl_Law_29 (c_Model_reset l G ob ad sc mI mL mZ (xs (i + 1)) ((((xs (i + 2)).toInt64) <<< ((32 : Int32).toInt64 &&& 63)) ||| (((xs (i + 3)).toInt64) &&& 4294967295)) (by omega)) hK ⟨hM, sy_any hMD⟩ (va_recv hK.1 hM (ci := 7) (q0 := 0) rfl rfl) rfl nm_Model_reset rfl rfl ⟨Nat.le_of_ble_eq_true rfl, Nat.le_of_ble_eq_true rfl⟩ hl.1 (Nat.le_of_ble_eq_true rfl) d_Law_law_399 ⟨hrc, hrs⟩) hS (fun q _ h => sy_in hMD h) (fun q h => sy_in hMD h) (fun r9 u9 t9 H9 locs ht9 hvm9 hw9 hB9 hz9 hk9 hS => ?_)
  obtain ⟨hr9, hu9⟩ := hw9
  subst hr9
  subst hu9
  rw [ht9] at hB9
  have hSP : sys_P G g (x_reset cx (xs (i + 1)) ((((xs (i + 2)).toInt64) <<< ((32 : Int32).toInt64 &&& 63)) ||| (((xs (i + 3)).toInt64) &&& 4294967295))).2 H9 := lx_S hSP hap hk9
  have hM : va_P G.1 classes (mw G.2 ob ad (mo_reset sc mI mL mZ (xs (i + 1)) ((((xs (i + 2)).toInt64) <<< ((32 : Int32).toInt64 &&& 63)) ||| (((xs (i + 3)).toInt64) &&& 4294967295))).2.1 (mo_reset sc mI mL mZ (xs (i + 1)) ((((xs (i + 2)).toInt64) <<< ((32 : Int32).toInt64 &&& 63)) ||| (((xs (i + 3)).toInt64) &&& 4294967295))).2.2.1 (mo_reset sc mI mL mZ (xs (i + 1)) ((((xs (i + 2)).toInt64) <<< ((32 : Int32).toInt64 &&& 63)) ||| (((xs (i + 3)).toInt64) &&& 4294967295))).2.2.2.1 (mo_reset sc mI mL mZ (xs (i + 1)) ((((xs (i + 2)).toInt64) <<< ((32 : Int32).toInt64 &&& 63)) ||| (((xs (i + 3)).toInt64) &&& 4294967295))).2.2.2.2) H9 := hB9
  have hMD : va_D (fun q => s.heap.size ≤ q) (mw G.2 ob ad (mo_reset sc mI mL mZ (xs (i + 1)) ((((xs (i + 2)).toInt64) <<< ((32 : Int32).toInt64 &&& 63)) ||| (((xs (i + 3)).toInt64) &&& 4294967295))).2.1 (mo_reset sc mI mL mZ (xs (i + 1)) ((((xs (i + 2)).toInt64) <<< ((32 : Int32).toInt64 &&& 63)) ||| (((xs (i + 3)).toInt64) &&& 4294967295))).2.2.1 (mo_reset sc mI mL mZ (xs (i + 1)) ((((xs (i + 2)).toInt64) <<< ((32 : Int32).toInt64 &&& 63)) ||| (((xs (i + 3)).toInt64) &&& 4294967295))).2.2.2.1 (mo_reset sc mI mL mZ (xs (i + 1)) ((((xs (i + 2)).toInt64) <<< ((32 : Int32).toInt64 &&& 63)) ||| (((xs (i + 3)).toInt64) &&& 4294967295))).2.2.2.2) := sy_Da hMD rfl
  have hap : ∀ q, sys_A G g (x_reset cx (xs (i + 1)) ((((xs (i + 2)).toInt64) <<< ((32 : Int32).toInt64 &&& 63)) ||| (((xs (i + 3)).toInt64) &&& 4294967295))).2 q → ¬ sy_A (mw G.2 ob ad (mo_reset sc mI mL mZ (xs (i + 1)) ((((xs (i + 2)).toInt64) <<< ((32 : Int32).toInt64 &&& 63)) ||| (((xs (i + 3)).toInt64) &&& 4294967295))).2.1 (mo_reset sc mI mL mZ (xs (i + 1)) ((((xs (i + 2)).toInt64) <<< ((32 : Int32).toInt64 &&& 63)) ||| (((xs (i + 3)).toInt64) &&& 4294967295))).2.2.1 (mo_reset sc mI mL mZ (xs (i + 1)) ((((xs (i + 2)).toInt64) <<< ((32 : Int32).toInt64 &&& 63)) ||| (((xs (i + 3)).toInt64) &&& 4294967295))).2.2.2.1 (mo_reset sc mI mL mZ (xs (i + 1)) ((((xs (i + 2)).toInt64) <<< ((32 : Int32).toInt64 &&& 63)) ||| (((xs (i + 3)).toInt64) &&& 4294967295))).2.2.2.2) q := fun q h h2 => hap q h (sy_Aa (ws := mw G.2 ob ad sc mI mL mZ) (ws' := mw G.2 ob ad (mo_reset sc mI mL mZ (xs (i + 1)) ((((xs (i + 2)).toInt64) <<< ((32 : Int32).toInt64 &&& 63)) ||| (((xs (i + 3)).toInt64) &&& 4294967295))).2.1 (mo_reset sc mI mL mZ (xs (i + 1)) ((((xs (i + 2)).toInt64) <<< ((32 : Int32).toInt64 &&& 63)) ||| (((xs (i + 3)).toInt64) &&& 4294967295))).2.2.1 (mo_reset sc mI mL mZ (xs (i + 1)) ((((xs (i + 2)).toInt64) <<< ((32 : Int32).toInt64 &&& 63)) ||| (((xs (i + 3)).toInt64) &&& 4294967295))).2.2.2.1 (mo_reset sc mI mL mZ (xs (i + 1)) ((((xs (i + 2)).toInt64) <<< ((32 : Int32).toInt64 &&& 63)) ||| (((xs (i + 3)).toInt64) &&& 4294967295))).2.2.2.2) rfl h2)
  generalize H9 = H at hSP hM hS ⊢
  have hE := e_reset hR (xs (i + 1)) ((((xs (i + 2)).toInt64) <<< ((32 : Int32).toInt64 &&& 63)) ||| (((xs (i + 3)).toInt64) &&& 4294967295))
  have hE9 := hE.1
  have hR := hE.2
  have hq4 : (mo_reset sc mI mL mZ (xs (i + 1)) ((((xs (i + 2)).toInt64) <<< ((32 : Int32).toInt64 &&& 63)) ||| (((xs (i + 3)).toInt64) &&& 4294967295))).2.1 4 ≤ sc 4 + 1 := q_reset
  refine lv_icmp_eq (tgt := 1384) hx hb d_Law_law_402 (by decide) (fun c_1 => ?_) (fun c_1 => ?_)
  · have c_1 := bI_i c_1
    rw [← hf9.1, ← hf9.2]
    exact kk g (x_reset cx (xs (i + 1)) ((((xs (i + 2)).toInt64) <<< ((32 : Int32).toInt64 &&& 63)) ||| (((xs (i + 3)).toInt64) &&& 4294967295))).2 (mo_reset sc mI mL mZ (xs (i + 1)) ((((xs (i + 2)).toInt64) <<< ((32 : Int32).toInt64 &&& 63)) ||| (((xs (i + 3)).toInt64) &&& 4294967295))).2.1 (mo_reset sc mI mL mZ (xs (i + 1)) ((((xs (i + 2)).toInt64) <<< ((32 : Int32).toInt64 &&& 63)) ||| (((xs (i + 3)).toInt64) &&& 4294967295))).2.2.1 (mo_reset sc mI mL mZ (xs (i + 1)) ((((xs (i + 2)).toInt64) <<< ((32 : Int32).toInt64 &&& 63)) ||| (((xs (i + 3)).toInt64) &&& 4294967295))).2.2.2.1 (mo_reset sc mI mL mZ (xs (i + 1)) ((((xs (i + 2)).toInt64) <<< ((32 : Int32).toInt64 &&& 63)) ||| (((xs (i + 3)).toInt64) &&& 4294967295))).2.2.2.2 _ _ rfl ⟨hSP, hSD, hM, hMD, hap, hS, hR, by omega⟩
  · have c_1 : ¬ ((x_reset cx (xs (i + 1)) ((((xs (i + 2)).toInt64) <<< ((32 : Int32).toInt64 &&& 63)) ||| (((xs (i + 3)).toInt64) &&& 4294967295))).1) = ((mo_reset sc mI mL mZ (xs (i + 1)) ((((xs (i + 2)).toInt64) <<< ((32 : Int32).toInt64 &&& 63)) ||| (((xs (i + 3)).toInt64) &&& 4294967295))).1) := fun h9 => c_1 (by rw [h9])
    exact absurd hE9 c_1
set_option maxHeartbeats 4000000 in
set_option maxRecDepth 100000 in
theorem law_c3 {p : Program} {l : Launch} {e : Env} {s : State} {m : MethodId} {below : List Frame} {meth : Method} {c : Code} {b L : Nat} {xs : Nat → Int32} (hL : L ≤ 5632) (C0 : lw_At p s m meth c b L xs) {G : sy_G} (hK : sy_K G s) {g : Nat → Nat} {cx : cs} {ob : Nat} {ad : Nat → Nat} {sc : Nat → Nat} {mI : Nat → Nat → Int32} {mL : Nat → Nat → Int64} {mZ : Nat → Nat → Bool} {H : Heap} {locs : List Loc} {i : Nat} (hi : i + 11 ≤ L) {Q : State → Prop} (hLW : LW s G g cx ob ad sc mI mL mZ i H locs) {ls : Array Slot} (hl : lv_has ls 4 [(3, .int (nI i)), (2, .ref ob), (1, .ref (g 0)), (0, .ref b)])
    (kk : ∀ (g9 : Nat → Nat) (cx9 : cs) (sc9 : Nat → Nat) (mI9 : Nat → Nat → Int32) (mL9 : Nat → Nat → Int64) (mZ9 : Nat → Nat → Bool) (H9 : Heap) (locs9 : List Loc), g9 0 = g 0 → LW s G g9 cx9 ob ad sc9 mI9 mL9 mZ9 (i + 1) H9 locs9 → W p l e room_1 s m #[Value.ref b] below meth c H9 locs9 (fc cx9) (fs cx9) Q (F0 m 1384 ls [])) :
    W p l e room_1 s m #[Value.ref b] below meth c H locs (fc cx) (fs cx) Q (F0 m 407 ls []) := by
  obtain ⟨hx, hb, hr, hml, hown0, hts, hX, hbl, hlocks, hgv⟩ := C0
  obtain ⟨hSP, hSD, hM, hMD, hap, hS, hR, h4n⟩ := hLW
  have hown : s.vm.findClass R_Law = some m.cls := hown0
  have ht : ∀ wd ∈ sy_T, wd.before #[Value.ref b] s = true := fun wd h => hts wd (List.mem_filter.mp h).1
  have hbA : ¬ (fun q : Nat => s.heap.size ≤ q) b := Nat.not_le.mpr hbl
  have e0 := hR.s0
  have e1 := hR.s1
  have e2 := hR.s2
  have e3 := hR.s3
  have e4 := hR.s4
  have b0 := hR.b0
  have b1 := hR.b1
  have b2 := hR.b2
  have b3 := hR.b3
  have hcb : cs_b cx := cs_bR hR (by omega)
  obtain ⟨hd, hs, hn, hc, hm, hb4⟩ := id hcb
  have hrc : fc cx + 0 ≤ room_1.cells := by show _ ≤ 600000; unfold fc; omega
  have hrs : fs cx + 0 ≤ room_1.slots := by show _ ≤ 7302250; unfold fs; omega
  refine lv_aload_n hx hb d_Law_law_407 rfl (lv_at hl 2 rfl) ?_
  refine lv_aload_n hx hb d_Law_law_408 rfl (lv_at hl 3 rfl) ?_
  refine lv_iload_n hx hb d_Law_law_409 rfl (lv_at hl 0 rfl) ?_
  refine lv_iconst (v := 1) hx hb d_Law_law_410 (by decide) ?_
  refine lv_iadd hx hb d_Law_law_411 ?_
  refine sy_ti (y := nI (i + 1)) (nI_add i 1) ?_
  refine va_sld hx hb hX hbl hbA hS (vp_in_nI (n := i + 1) (by omega) (by omega)) d_Law_law_412 ?_
  refine sy_ti (y := xs (i + 1)) (by rw [nI_clamp (by omega)]) ?_
  refine vp_callSi (va_Run.run (sy_runV (As := [.int (xs (i + 1))]) (rest := []) (b := g 0) ⟨hx, hb, hml, hown, ht⟩ cl_Law_30 (c_DeviceSets_life l G g cx.nd cx.ns cx.nb cx.nT cx.fI cx.fL cx.nC cx.gI cx.gL cx.dl cx.df cx.dm cx.dk cx.so cx.sh cx.sv (xs (i + 1)) hd hs hn hc (fun d h => (hm d h).2)) hK ⟨sys_x hSP, sys_t hSP, sys_c hSP, sys_d hSP, sys_s hSP⟩ (va_recv hK.1 (sys_x hSP) (ci := 0) (q0 := 0) rfl rfl) rfl nm_DeviceSets_life rfl rfl ⟨Nat.le_of_ble_eq_true rfl, Nat.le_of_ble_eq_true rfl⟩ hl.1 (Nat.le_of_ble_eq_true rfl) d_Law_law_413 ⟨hrc, hrs⟩)) (fun r9 hr9 => ?_)
  subst hr9
  refine lv_aload_n hx hb d_Law_law_416 rfl (lv_at hl 1 rfl) ?_
  refine lv_aload_n hx hb d_Law_law_417 rfl (lv_at hl 3 rfl) ?_
  refine lv_iload_n hx hb d_Law_law_418 rfl (lv_at hl 0 rfl) ?_
  refine lv_iconst (v := 1) hx hb d_Law_law_419 (by decide) ?_
  refine lv_iadd hx hb d_Law_law_420 ?_
  refine sy_ti (y := nI (i + 1)) (nI_add i 1) ?_
  refine va_sld hx hb hX hbl hbA hS (vp_in_nI (n := i + 1) (by omega) (by omega)) d_Law_law_421 ?_
  refine sy_ti (y := xs (i + 1)) (by rw [nI_clamp (by omega)]) ?_
  refine vp_callSi (va_Run.run (sy_runV (As := [.int (xs (i + 1))]) (rest := [.int (xm_life cx.nd cx.dl (xs (i + 1)))]) (b := ob) ⟨hx, hb, hml, hown, ht⟩ cl_Law_34 (c_Model_life l G ob ad sc mI mL mZ (xs (i + 1)) (by omega)) hK hM (va_recv hK.1 hM (ci := 7) (q0 := 0) rfl rfl) rfl nm_Model_life rfl rfl ⟨Nat.le_of_ble_eq_true rfl, Nat.le_of_ble_eq_true rfl⟩ hl.1 (Nat.le_of_ble_eq_true rfl) d_Law_law_422 ⟨hrc, hrs⟩)) (fun r9 hr9 => ?_)
  subst hr9
  have hE9 := e_life hR (xs (i + 1))
  refine lv_icmp_eq (tgt := 1384) hx hb d_Law_law_425 (by decide) (fun c_1 => ?_) (fun c_1 => ?_)
  · exact kk g cx sc mI mL mZ _ _ rfl ⟨hSP, hSD, hM, hMD, hap, hS, hR, by omega⟩
  · exact absurd hE9 c_1
set_option maxHeartbeats 4000000 in
set_option maxRecDepth 100000 in
theorem law_c4 {p : Program} {l : Launch} {e : Env} {s : State} {m : MethodId} {below : List Frame} {meth : Method} {c : Code} {b L : Nat} {xs : Nat → Int32} (hL : L ≤ 5632) (C0 : lw_At p s m meth c b L xs) {G : sy_G} (hK : sy_K G s) {g : Nat → Nat} {cx : cs} {ob : Nat} {ad : Nat → Nat} {sc : Nat → Nat} {mI : Nat → Nat → Int32} {mL : Nat → Nat → Int64} {mZ : Nat → Nat → Bool} {H : Heap} {locs : List Loc} {i : Nat} (hi : i + 11 ≤ L) {Q : State → Prop} (hLW : LW s G g cx ob ad sc mI mL mZ i H locs) {ls : Array Slot} (hl : lv_has ls 4 [(3, .int (nI i)), (2, .ref ob), (1, .ref (g 0)), (0, .ref b)])
    (kk : ∀ (g9 : Nat → Nat) (cx9 : cs) (sc9 : Nat → Nat) (mI9 : Nat → Nat → Int32) (mL9 : Nat → Nat → Int64) (mZ9 : Nat → Nat → Bool) (H9 : Heap) (locs9 : List Loc), g9 0 = g 0 → LW s G g9 cx9 ob ad sc9 mI9 mL9 mZ9 (i + 1) H9 locs9 → W p l e room_1 s m #[Value.ref b] below meth c H9 locs9 (fc cx9) (fs cx9) Q (F0 m 1384 ls [])) :
    W p l e room_1 s m #[Value.ref b] below meth c H locs (fc cx) (fs cx) Q (F0 m 430 ls []) := by
  obtain ⟨hx, hb, hr, hml, hown0, hts, hX, hbl, hlocks, hgv⟩ := C0
  obtain ⟨hSP, hSD, hM, hMD, hap, hS, hR, h4n⟩ := hLW
  have hown : s.vm.findClass R_Law = some m.cls := hown0
  have ht : ∀ wd ∈ sy_T, wd.before #[Value.ref b] s = true := fun wd h => hts wd (List.mem_filter.mp h).1
  have hbA : ¬ (fun q : Nat => s.heap.size ≤ q) b := Nat.not_le.mpr hbl
  have e0 := hR.s0
  have e1 := hR.s1
  have e2 := hR.s2
  have e3 := hR.s3
  have e4 := hR.s4
  have b0 := hR.b0
  have b1 := hR.b1
  have b2 := hR.b2
  have b3 := hR.b3
  have hcb : cs_b cx := cs_bR hR (by omega)
  obtain ⟨hd, hs, hn, hc, hm, hb4⟩ := id hcb
  have hrc : fc cx + 0 ≤ room_1.cells := by show _ ≤ 600000; unfold fc; omega
  have hrs : fs cx + 0 ≤ room_1.slots := by show _ ≤ 7302250; unfold fs; omega
  refine lv_aload_n hx hb d_Law_law_430 rfl (lv_at hl 2 rfl) ?_
  refine lv_aload_n hx hb d_Law_law_431 rfl (lv_at hl 3 rfl) ?_
  refine lv_iload_n hx hb d_Law_law_432 rfl (lv_at hl 0 rfl) ?_
  refine lv_iconst (v := 1) hx hb d_Law_law_433 (by decide) ?_
  refine lv_iadd hx hb d_Law_law_434 ?_
  refine sy_ti (y := nI (i + 1)) (nI_add i 1) ?_
  refine va_sld hx hb hX hbl hbA hS (vp_in_nI (n := i + 1) (by omega) (by omega)) d_Law_law_435 ?_
  refine sy_ti (y := xs (i + 1)) (by rw [nI_clamp (by omega)]) ?_
  by_cases hq : cx.ns < 6 ∧ mo_ok cx.nd (xs (i + 1)) = true
  · have hra : fc cx + 3 ≤ room_1.cells := by show _ ≤ 600000; unfold fc; omega
    have hrb : fs cx + 11 ≤ room_1.slots := by show _ ≤ 7302250; unfold fs; omega
    have hF9 : ∀ q, (sys_A G g cx q ∨ H.size ≤ q) → s.heap.size ≤ q := fun q h => h.elim (fun h => ss_in hSD h) (fun h => Nat.le_trans hS.1 h)
    refine va_calli (sy_runV (As := [.int (xs (i + 1))]) (rest := []) (b := g 0) ⟨hx, hb, hml, hown, ht⟩ cl_Law_35 (s_set l G g cx hcb (xs (i + 1)) H.size hq.1 hq.2) hK ⟨⟨hSP, ss_anyD hSD⟩, rfl⟩ (va_recv hK.1 (sys_x hSP) (ci := 0) (q0 := 0) rfl rfl) rfl nm_DeviceSets_set rfl rfl ⟨Nat.le_of_ble_eq_true rfl, Nat.le_of_ble_eq_true rfl⟩ hl.1 (Nat.le_of_ble_eq_true rfl) d_Law_law_436 ⟨hra, hrb⟩) hS (fun q _ h => hF9 q h) (fun q h => hF9 q h) (fun r9 g9 t9 H9 locs ht9 hvm9 hw9 hB9 hz9 hk9 hS => ?_)
    obtain ⟨hr9, hg9⟩ := hw9
    subst hr9
    rw [ht9] at hB9
    have hM9 : va_P G.1 classes (mw G.2 ob ad sc mI mL mZ) H9 := hM.kept (fun k q h => hk9 q.1 (hM k q h).lt (fun h9 => h9.elim (fun h9 => hap q.1 h9 ⟨k, q.2, h⟩) (fun h9 => Nat.not_le.mpr (hM k q h).lt h9)))
    have hap9 : ∀ q, sys_A G g9 (x_set cx (xs (i + 1))).2 q → ¬ sy_A (mw G.2 ob ad sc mI mL mZ) q := fun q h h2 => (ss_in hB9.2 h).elim (fun h3 => hap q h3 h2) (fun h3 => by obtain ⟨k, e, hk⟩ := h2; exact Nat.not_le.mpr (hM k _ hk).lt h3)
    have hSP : sys_P G g9 (x_set cx (xs (i + 1))).2 H9 := hB9.1
    have hSD : sys_D (fun q => s.heap.size ≤ q) G g9 (x_set cx (xs (i + 1))).2 := ⟨hB9.2.1, fun i q h => hF9 q.1 (hB9.2.2 i q h)⟩
    have hM := hM9
    have hap := hap9
    generalize H9 = H at hSP hM hS ⊢
    have e1 : x_set cx (xs (i + 1)) = (nI cx.ns, cx.as (tl_ofD cx.fI cx.nT (xs (i + 1)))) := by rw [x_set, if_neg (fun h => by rcases h with h | h; omega; rw [hq.2] at h; cases h)]
    have hf9 : fc cx + 3 = fc (x_set cx (xs (i + 1))).2 ∧ fs cx + 11 = fs (x_set cx (xs (i + 1))).2 := by rw [e1]; unfold fc fs; exact ⟨by show _ = 36 + 4 * cx.nd + 3 * (cx.ns + 1); omega, by show _ = 2884 + 26 * cx.nd + 11 * (cx.ns + 1); omega⟩
    rw [hf9.1, hf9.2]
    have hrc : fc (x_set cx (xs (i + 1))).2 ≤ room_1.cells := by rw [← hf9.1]; exact hra
    have hrs : fs (x_set cx (xs (i + 1))).2 ≤ room_1.slots := by rw [← hf9.2]; exact hrb
    refine lv_aload_n hx hb d_Law_law_439 rfl (lv_at hl 1 rfl) ?_
    refine lv_aload_n hx hb d_Law_law_440 rfl (lv_at hl 3 rfl) ?_
    refine lv_iload_n hx hb d_Law_law_441 rfl (lv_at hl 0 rfl) ?_
    refine lv_iconst (v := 1) hx hb d_Law_law_442 (by decide) ?_
    refine lv_iadd hx hb d_Law_law_443 ?_
    refine sy_ti (y := nI (i + 1)) (nI_add i 1) ?_
    refine va_sld hx hb hX hbl hbA hS (vp_in_nI (n := i + 1) (by omega) (by omega)) d_Law_law_444 ?_
    refine sy_ti (y := xs (i + 1)) (by rw [nI_clamp (by omega)]) ?_
    refine va_calli (sy_runV (As := [.int (xs (i + 1))]) (rest := [.int ((x_set cx (xs (i + 1))).1)]) (b := ob) ⟨hx, hb, hml, hown, ht⟩ cl_Law_38 (c_Model_set l G ob ad sc mI mL mZ (xs (i + 1)) (by omega) (by omega) (by omega)) hK ⟨hM, sy_any hMD⟩ (va_recv hK.1 hM (ci := 7) (q0 := 0) rfl rfl) rfl nm_Model_set rfl rfl ⟨Nat.le_of_ble_eq_true rfl, Nat.le_of_ble_eq_true rfl⟩ hl.1 (Nat.le_of_ble_eq_true rfl) d_Law_law_445 ⟨hrc, hrs⟩) hS (fun q _ h => sy_in hMD h) (fun q h => sy_in hMD h) (fun r9 u9 t9 H9 locs ht9 hvm9 hw9 hB9 hz9 hk9 hS => ?_)
    obtain ⟨hr9, hu9⟩ := hw9
    subst hr9
    subst hu9
    rw [ht9] at hB9
    have hSP : sys_P G g9 (x_set cx (xs (i + 1))).2 H9 := lx_S hSP hap hk9
    have hM : va_P G.1 classes (mw G.2 ob ad (mo_set sc mI mL mZ (xs (i + 1))).2.1 (mo_set sc mI mL mZ (xs (i + 1))).2.2.1 (mo_set sc mI mL mZ (xs (i + 1))).2.2.2.1 (mo_set sc mI mL mZ (xs (i + 1))).2.2.2.2) H9 := hB9
    have hMD : va_D (fun q => s.heap.size ≤ q) (mw G.2 ob ad (mo_set sc mI mL mZ (xs (i + 1))).2.1 (mo_set sc mI mL mZ (xs (i + 1))).2.2.1 (mo_set sc mI mL mZ (xs (i + 1))).2.2.2.1 (mo_set sc mI mL mZ (xs (i + 1))).2.2.2.2) := sy_Da hMD rfl
    have hap : ∀ q, sys_A G g9 (x_set cx (xs (i + 1))).2 q → ¬ sy_A (mw G.2 ob ad (mo_set sc mI mL mZ (xs (i + 1))).2.1 (mo_set sc mI mL mZ (xs (i + 1))).2.2.1 (mo_set sc mI mL mZ (xs (i + 1))).2.2.2.1 (mo_set sc mI mL mZ (xs (i + 1))).2.2.2.2) q := fun q h h2 => hap q h (sy_Aa (ws := mw G.2 ob ad sc mI mL mZ) (ws' := mw G.2 ob ad (mo_set sc mI mL mZ (xs (i + 1))).2.1 (mo_set sc mI mL mZ (xs (i + 1))).2.2.1 (mo_set sc mI mL mZ (xs (i + 1))).2.2.2.1 (mo_set sc mI mL mZ (xs (i + 1))).2.2.2.2) rfl h2)
    generalize H9 = H at hSP hM hS ⊢
    have hE := e_set hR (xs (i + 1))
    have hE9 := hE.1
    have hR := hE.2
    have hq4 : (mo_set sc mI mL mZ (xs (i + 1))).2.1 4 ≤ sc 4 + 1 := q_set
    refine lv_icmp_eq (tgt := 1384) hx hb d_Law_law_448 (by decide) (fun c_1 => ?_) (fun c_1 => ?_)
    · exact kk g9 (x_set cx (xs (i + 1))).2 (mo_set sc mI mL mZ (xs (i + 1))).2.1 (mo_set sc mI mL mZ (xs (i + 1))).2.2.1 (mo_set sc mI mL mZ (xs (i + 1))).2.2.2.1 (mo_set sc mI mL mZ (xs (i + 1))).2.2.2.2 _ _ hg9 ⟨hSP, hSD, hM, hMD, hap, hS, hR, by omega⟩
    · exact absurd hE9 c_1
  · have e1 : x_set cx (xs (i + 1)) = (-1, cx) := by rw [x_set, if_pos (by by_cases h9 : cx.ns < 6; exact Or.inr (Bool.eq_false_iff.mpr (fun h8 => hq ⟨h9, h8⟩)); exact Or.inl (by omega))]
    refine va_calli (sy_runV (As := [.int (xs (i + 1))]) (rest := []) (b := g 0) ⟨hx, hb, hml, hown, ht⟩ cl_Law_35 (s_setN l G g cx hcb (xs (i + 1)) (by by_cases h9 : cx.ns < 6; exact Or.inr (Bool.eq_false_iff.mpr (fun h8 => hq ⟨h9, h8⟩)); exact Or.inl (by omega))) hK ⟨hSP, ss_anyD hSD⟩ (va_recv hK.1 (sys_x hSP) (ci := 0) (q0 := 0) rfl rfl) rfl nm_DeviceSets_set rfl rfl ⟨Nat.le_of_ble_eq_true rfl, Nat.le_of_ble_eq_true rfl⟩ hl.1 (Nat.le_of_ble_eq_true rfl) d_Law_law_436 ⟨hrc, hrs⟩) hS (fun q _ h => ss_in hSD h) (fun q h => ss_in hSD h) (fun r9 u9 t9 H9 locs ht9 hvm9 hw9 hB9 hz9 hk9 hS => ?_)
    obtain ⟨hr9, hu9⟩ := hw9
    subst hr9
    subst hu9
    rw [ht9] at hB9
    have hM : va_P G.1 classes (mw G.2 ob ad sc mI mL mZ) H9 := lx_M hM hap hk9
    have hxa : ∀ i9 : sid, (sy_cell G.2 g (x_set cx (xs (i + 1))).2 i9).map Prod.fst = (sy_cell G.2 g cx i9).map Prod.fst := fun i9 => by rw [e1]
    have hSP : sys_P G g (x_set cx (xs (i + 1))).2 H9 := hB9
    have hSD : sys_D (fun q => s.heap.size ≤ q) G g (x_set cx (xs (i + 1))).2 := ss_setD hSD hxa
    have hap : ∀ q, sys_A G g (x_set cx (xs (i + 1))).2 q → ¬ sy_A (mw G.2 ob ad sc mI mL mZ) q := fun q h => hap q (ss_Aa hxa h)
    generalize H9 = H at hSP hM hS ⊢
    have hf9 : fc (x_set cx (xs (i + 1))).2 = fc cx ∧ fs (x_set cx (xs (i + 1))).2 = fs cx := by rw [e1]; exact ⟨rfl, rfl⟩
    refine lv_aload_n hx hb d_Law_law_439 rfl (lv_at hl 1 rfl) ?_
    refine lv_aload_n hx hb d_Law_law_440 rfl (lv_at hl 3 rfl) ?_
    refine lv_iload_n hx hb d_Law_law_441 rfl (lv_at hl 0 rfl) ?_
    refine lv_iconst (v := 1) hx hb d_Law_law_442 (by decide) ?_
    refine lv_iadd hx hb d_Law_law_443 ?_
    refine sy_ti (y := nI (i + 1)) (nI_add i 1) ?_
    refine va_sld hx hb hX hbl hbA hS (vp_in_nI (n := i + 1) (by omega) (by omega)) d_Law_law_444 ?_
    refine sy_ti (y := xs (i + 1)) (by rw [nI_clamp (by omega)]) ?_
    refine va_calli (sy_runV (As := [.int (xs (i + 1))]) (rest := [.int ((x_set cx (xs (i + 1))).1)]) (b := ob) ⟨hx, hb, hml, hown, ht⟩ cl_Law_38 (c_Model_set l G ob ad sc mI mL mZ (xs (i + 1)) (by omega) (by omega) (by omega)) hK ⟨hM, sy_any hMD⟩ (va_recv hK.1 hM (ci := 7) (q0 := 0) rfl rfl) rfl nm_Model_set rfl rfl ⟨Nat.le_of_ble_eq_true rfl, Nat.le_of_ble_eq_true rfl⟩ hl.1 (Nat.le_of_ble_eq_true rfl) d_Law_law_445 ⟨hrc, hrs⟩) hS (fun q _ h => sy_in hMD h) (fun q h => sy_in hMD h) (fun r9 u9 t9 H9 locs ht9 hvm9 hw9 hB9 hz9 hk9 hS => ?_)
    obtain ⟨hr9, hu9⟩ := hw9
    subst hr9
    subst hu9
    rw [ht9] at hB9
    have hSP : sys_P G g (x_set cx (xs (i + 1))).2 H9 := lx_S hSP hap hk9
    have hM : va_P G.1 classes (mw G.2 ob ad (mo_set sc mI mL mZ (xs (i + 1))).2.1 (mo_set sc mI mL mZ (xs (i + 1))).2.2.1 (mo_set sc mI mL mZ (xs (i + 1))).2.2.2.1 (mo_set sc mI mL mZ (xs (i + 1))).2.2.2.2) H9 := hB9
    have hMD : va_D (fun q => s.heap.size ≤ q) (mw G.2 ob ad (mo_set sc mI mL mZ (xs (i + 1))).2.1 (mo_set sc mI mL mZ (xs (i + 1))).2.2.1 (mo_set sc mI mL mZ (xs (i + 1))).2.2.2.1 (mo_set sc mI mL mZ (xs (i + 1))).2.2.2.2) := sy_Da hMD rfl
    have hap : ∀ q, sys_A G g (x_set cx (xs (i + 1))).2 q → ¬ sy_A (mw G.2 ob ad (mo_set sc mI mL mZ (xs (i + 1))).2.1 (mo_set sc mI mL mZ (xs (i + 1))).2.2.1 (mo_set sc mI mL mZ (xs (i + 1))).2.2.2.1 (mo_set sc mI mL mZ (xs (i + 1))).2.2.2.2) q := fun q h h2 => hap q h (sy_Aa (ws := mw G.2 ob ad sc mI mL mZ) (ws' := mw G.2 ob ad (mo_set sc mI mL mZ (xs (i + 1))).2.1 (mo_set sc mI mL mZ (xs (i + 1))).2.2.1 (mo_set sc mI mL mZ (xs (i + 1))).2.2.2.1 (mo_set sc mI mL mZ (xs (i + 1))).2.2.2.2) rfl h2)
    generalize H9 = H at hSP hM hS ⊢
    have hE := e_set hR (xs (i + 1))
    have hE9 := hE.1
    have hR := hE.2
    have hq4 : (mo_set sc mI mL mZ (xs (i + 1))).2.1 4 ≤ sc 4 + 1 := q_set
    refine lv_icmp_eq (tgt := 1384) hx hb d_Law_law_448 (by decide) (fun c_2 => ?_) (fun c_2 => ?_)
    · rw [← hf9.1, ← hf9.2]
      exact kk g (x_set cx (xs (i + 1))).2 (mo_set sc mI mL mZ (xs (i + 1))).2.1 (mo_set sc mI mL mZ (xs (i + 1))).2.2.1 (mo_set sc mI mL mZ (xs (i + 1))).2.2.2.1 (mo_set sc mI mL mZ (xs (i + 1))).2.2.2.2 _ _ rfl ⟨hSP, hSD, hM, hMD, hap, hS, hR, by omega⟩
    · exact absurd hE9 c_2
set_option maxHeartbeats 4000000 in
set_option maxRecDepth 100000 in
theorem law_c5 {p : Program} {l : Launch} {e : Env} {s : State} {m : MethodId} {below : List Frame} {meth : Method} {c : Code} {b L : Nat} {xs : Nat → Int32} (hL : L ≤ 5632) (C0 : lw_At p s m meth c b L xs) {G : sy_G} (hK : sy_K G s) {g : Nat → Nat} {cx : cs} {ob : Nat} {ad : Nat → Nat} {sc : Nat → Nat} {mI : Nat → Nat → Int32} {mL : Nat → Nat → Int64} {mZ : Nat → Nat → Bool} {H : Heap} {locs : List Loc} {i : Nat} (hi : i + 11 ≤ L) {Q : State → Prop} (hLW : LW s G g cx ob ad sc mI mL mZ i H locs) {ls : Array Slot} (hl : lv_has ls 4 [(3, .int (nI i)), (2, .ref ob), (1, .ref (g 0)), (0, .ref b)])
    (kk : ∀ (g9 : Nat → Nat) (cx9 : cs) (sc9 : Nat → Nat) (mI9 : Nat → Nat → Int32) (mL9 : Nat → Nat → Int64) (mZ9 : Nat → Nat → Bool) (H9 : Heap) (locs9 : List Loc), g9 0 = g 0 → LW s G g9 cx9 ob ad sc9 mI9 mL9 mZ9 (i + 1) H9 locs9 → W p l e room_1 s m #[Value.ref b] below meth c H9 locs9 (fc cx9) (fs cx9) Q (F0 m 1384 ls [])) :
    W p l e room_1 s m #[Value.ref b] below meth c H locs (fc cx) (fs cx) Q (F0 m 453 ls []) := by
  obtain ⟨hx, hb, hr, hml, hown0, hts, hX, hbl, hlocks, hgv⟩ := C0
  obtain ⟨hSP, hSD, hM, hMD, hap, hS, hR, h4n⟩ := hLW
  have hown : s.vm.findClass R_Law = some m.cls := hown0
  have ht : ∀ wd ∈ sy_T, wd.before #[Value.ref b] s = true := fun wd h => hts wd (List.mem_filter.mp h).1
  have hbA : ¬ (fun q : Nat => s.heap.size ≤ q) b := Nat.not_le.mpr hbl
  have e0 := hR.s0
  have e1 := hR.s1
  have e2 := hR.s2
  have e3 := hR.s3
  have e4 := hR.s4
  have b0 := hR.b0
  have b1 := hR.b1
  have b2 := hR.b2
  have b3 := hR.b3
  have hcb : cs_b cx := cs_bR hR (by omega)
  obtain ⟨hd, hs, hn, hc, hm, hb4⟩ := id hcb
  have hrc : fc cx + 0 ≤ room_1.cells := by show _ ≤ 600000; unfold fc; omega
  have hrs : fs cx + 0 ≤ room_1.slots := by show _ ≤ 7302250; unfold fs; omega
  refine lv_aload_n hx hb d_Law_law_453 rfl (lv_at hl 2 rfl) ?_
  refine lv_aload_n hx hb d_Law_law_454 rfl (lv_at hl 3 rfl) ?_
  refine lv_iload_n hx hb d_Law_law_455 rfl (lv_at hl 0 rfl) ?_
  refine lv_iconst (v := 1) hx hb d_Law_law_456 (by decide) ?_
  refine lv_iadd hx hb d_Law_law_457 ?_
  refine sy_ti (y := nI (i + 1)) (nI_add i 1) ?_
  refine va_sld hx hb hX hbl hbA hS (vp_in_nI (n := i + 1) (by omega) (by omega)) d_Law_law_458 ?_
  refine sy_ti (y := xs (i + 1)) (by rw [nI_clamp (by omega)]) ?_
  refine lv_aload_n hx hb d_Law_law_459 rfl (lv_at hl 3 rfl) ?_
  refine lv_iload_n hx hb d_Law_law_460 rfl (lv_at hl 0 rfl) ?_
  refine lv_iconst (v := 2) hx hb d_Law_law_461 (by decide) ?_
  refine lv_iadd hx hb d_Law_law_462 ?_
  refine sy_ti (y := nI (i + 2)) (nI_add i 2) ?_
  refine va_sld hx hb hX hbl hbA hS (vp_in_nI (n := i + 2) (by omega) (by omega)) d_Law_law_463 ?_
  refine sy_ti (y := xs (i + 2)) (by rw [nI_clamp (by omega)]) ?_
  refine va_calli (sy_runV (As := [.int (xs (i + 1)), .int (xs (i + 2))]) (rest := []) (b := g 0) ⟨hx, hb, hml, hown, ht⟩ cl_Law_39 (s_join l G g cx hcb (xs (i + 1)) (xs (i + 2))) hK ⟨hSP, ss_anyD hSD⟩ (va_recv hK.1 (sys_x hSP) (ci := 0) (q0 := 0) rfl rfl) rfl nm_DeviceSets_join rfl rfl ⟨Nat.le_of_ble_eq_true rfl, Nat.le_of_ble_eq_true rfl⟩ hl.1 (Nat.le_of_ble_eq_true rfl) d_Law_law_464 ⟨hrc, hrs⟩) hS (fun q _ h => ss_in hSD h) (fun q h => ss_in hSD h) (fun r9 u9 t9 H9 locs ht9 hvm9 hw9 hB9 hz9 hk9 hS => ?_)
  obtain ⟨hr9, hu9⟩ := hw9
  subst hr9
  subst hu9
  rw [ht9] at hB9
  have hM : va_P G.1 classes (mw G.2 ob ad sc mI mL mZ) H9 := lx_M hM hap hk9
  have hxa : ∀ i9 : sid, (sy_cell G.2 g (x_join cx (xs (i + 1)) (xs (i + 2))).2 i9).map Prod.fst = (sy_cell G.2 g cx i9).map Prod.fst := fun i9 => xa_join i9
  have hSP : sys_P G g (x_join cx (xs (i + 1)) (xs (i + 2))).2 H9 := hB9
  have hSD : sys_D (fun q => s.heap.size ≤ q) G g (x_join cx (xs (i + 1)) (xs (i + 2))).2 := ss_setD hSD hxa
  have hap : ∀ q, sys_A G g (x_join cx (xs (i + 1)) (xs (i + 2))).2 q → ¬ sy_A (mw G.2 ob ad sc mI mL mZ) q := fun q h => hap q (ss_Aa hxa h)
  generalize H9 = H at hSP hM hS ⊢
  have hf9 : fc (x_join cx (xs (i + 1)) (xs (i + 2))).2 = fc cx ∧ fs (x_join cx (xs (i + 1)) (xs (i + 2))).2 = fs cx := f_join
  refine lv_aload_n hx hb d_Law_law_467 rfl (lv_at hl 1 rfl) ?_
  refine lv_aload_n hx hb d_Law_law_468 rfl (lv_at hl 3 rfl) ?_
  refine lv_iload_n hx hb d_Law_law_469 rfl (lv_at hl 0 rfl) ?_
  refine lv_iconst (v := 1) hx hb d_Law_law_470 (by decide) ?_
  refine lv_iadd hx hb d_Law_law_471 ?_
  refine sy_ti (y := nI (i + 1)) (nI_add i 1) ?_
  refine va_sld hx hb hX hbl hbA hS (vp_in_nI (n := i + 1) (by omega) (by omega)) d_Law_law_472 ?_
  refine sy_ti (y := xs (i + 1)) (by rw [nI_clamp (by omega)]) ?_
  refine lv_aload_n hx hb d_Law_law_473 rfl (lv_at hl 3 rfl) ?_
  refine lv_iload_n hx hb d_Law_law_474 rfl (lv_at hl 0 rfl) ?_
  refine lv_iconst (v := 2) hx hb d_Law_law_475 (by decide) ?_
  refine lv_iadd hx hb d_Law_law_476 ?_
  refine sy_ti (y := nI (i + 2)) (nI_add i 2) ?_
  refine va_sld hx hb hX hbl hbA hS (vp_in_nI (n := i + 2) (by omega) (by omega)) d_Law_law_477 ?_
  refine sy_ti (y := xs (i + 2)) (by rw [nI_clamp (by omega)]) ?_
  refine va_calli (sy_runV (As := [.int (xs (i + 1)), .int (xs (i + 2))]) (rest := [.int ((x_join cx (xs (i + 1)) (xs (i + 2))).1)]) (b := ob) ⟨hx, hb, hml, hown, ht⟩ cl_Law_43 (c_Model_join l G ob ad sc mI mL mZ (xs (i + 1)) (xs (i + 2)) (by omega) (by omega)) hK ⟨hM, sy_any hMD⟩ (va_recv hK.1 hM (ci := 7) (q0 := 0) rfl rfl) rfl nm_Model_join rfl rfl ⟨Nat.le_of_ble_eq_true rfl, Nat.le_of_ble_eq_true rfl⟩ hl.1 (Nat.le_of_ble_eq_true rfl) d_Law_law_478 ⟨hrc, hrs⟩) hS (fun q _ h => sy_in hMD h) (fun q h => sy_in hMD h) (fun r9 u9 t9 H9 locs ht9 hvm9 hw9 hB9 hz9 hk9 hS => ?_)
  obtain ⟨hr9, hu9⟩ := hw9
  subst hr9
  subst hu9
  rw [ht9] at hB9
  have hSP : sys_P G g (x_join cx (xs (i + 1)) (xs (i + 2))).2 H9 := lx_S hSP hap hk9
  have hM : va_P G.1 classes (mw G.2 ob ad (mo_join sc mI mL mZ (xs (i + 1)) (xs (i + 2))).2.1 (mo_join sc mI mL mZ (xs (i + 1)) (xs (i + 2))).2.2.1 (mo_join sc mI mL mZ (xs (i + 1)) (xs (i + 2))).2.2.2.1 (mo_join sc mI mL mZ (xs (i + 1)) (xs (i + 2))).2.2.2.2) H9 := hB9
  have hMD : va_D (fun q => s.heap.size ≤ q) (mw G.2 ob ad (mo_join sc mI mL mZ (xs (i + 1)) (xs (i + 2))).2.1 (mo_join sc mI mL mZ (xs (i + 1)) (xs (i + 2))).2.2.1 (mo_join sc mI mL mZ (xs (i + 1)) (xs (i + 2))).2.2.2.1 (mo_join sc mI mL mZ (xs (i + 1)) (xs (i + 2))).2.2.2.2) := sy_Da hMD rfl
  have hap : ∀ q, sys_A G g (x_join cx (xs (i + 1)) (xs (i + 2))).2 q → ¬ sy_A (mw G.2 ob ad (mo_join sc mI mL mZ (xs (i + 1)) (xs (i + 2))).2.1 (mo_join sc mI mL mZ (xs (i + 1)) (xs (i + 2))).2.2.1 (mo_join sc mI mL mZ (xs (i + 1)) (xs (i + 2))).2.2.2.1 (mo_join sc mI mL mZ (xs (i + 1)) (xs (i + 2))).2.2.2.2) q := fun q h h2 => hap q h (sy_Aa (ws := mw G.2 ob ad sc mI mL mZ) (ws' := mw G.2 ob ad (mo_join sc mI mL mZ (xs (i + 1)) (xs (i + 2))).2.1 (mo_join sc mI mL mZ (xs (i + 1)) (xs (i + 2))).2.2.1 (mo_join sc mI mL mZ (xs (i + 1)) (xs (i + 2))).2.2.2.1 (mo_join sc mI mL mZ (xs (i + 1)) (xs (i + 2))).2.2.2.2) rfl h2)
  generalize H9 = H at hSP hM hS ⊢
  have hE := e_join hR (xs (i + 1)) (xs (i + 2))
  have hE9 := hE.1
  have hR := hE.2
  have hq4 : (mo_join sc mI mL mZ (xs (i + 1)) (xs (i + 2))).2.1 4 ≤ sc 4 + 1 := q_join
  refine lv_icmp_eq (tgt := 1384) hx hb d_Law_law_481 (by decide) (fun c_1 => ?_) (fun c_1 => ?_)
  · rw [← hf9.1, ← hf9.2]
    exact kk g (x_join cx (xs (i + 1)) (xs (i + 2))).2 (mo_join sc mI mL mZ (xs (i + 1)) (xs (i + 2))).2.1 (mo_join sc mI mL mZ (xs (i + 1)) (xs (i + 2))).2.2.1 (mo_join sc mI mL mZ (xs (i + 1)) (xs (i + 2))).2.2.2.1 (mo_join sc mI mL mZ (xs (i + 1)) (xs (i + 2))).2.2.2.2 _ _ rfl ⟨hSP, hSD, hM, hMD, hap, hS, hR, by omega⟩
  · exact absurd hE9 c_1
set_option maxHeartbeats 4000000 in
set_option maxRecDepth 100000 in
theorem law_c6 {p : Program} {l : Launch} {e : Env} {s : State} {m : MethodId} {below : List Frame} {meth : Method} {c : Code} {b L : Nat} {xs : Nat → Int32} (hL : L ≤ 5632) (C0 : lw_At p s m meth c b L xs) {G : sy_G} (hK : sy_K G s) {g : Nat → Nat} {cx : cs} {ob : Nat} {ad : Nat → Nat} {sc : Nat → Nat} {mI : Nat → Nat → Int32} {mL : Nat → Nat → Int64} {mZ : Nat → Nat → Bool} {H : Heap} {locs : List Loc} {i : Nat} (hi : i + 11 ≤ L) {Q : State → Prop} (hLW : LW s G g cx ob ad sc mI mL mZ i H locs) {ls : Array Slot} (hl : lv_has ls 4 [(3, .int (nI i)), (2, .ref ob), (1, .ref (g 0)), (0, .ref b)])
    (kk : ∀ (g9 : Nat → Nat) (cx9 : cs) (sc9 : Nat → Nat) (mI9 : Nat → Nat → Int32) (mL9 : Nat → Nat → Int64) (mZ9 : Nat → Nat → Bool) (H9 : Heap) (locs9 : List Loc), g9 0 = g 0 → LW s G g9 cx9 ob ad sc9 mI9 mL9 mZ9 (i + 1) H9 locs9 → W p l e room_1 s m #[Value.ref b] below meth c H9 locs9 (fc cx9) (fs cx9) Q (F0 m 1384 ls [])) :
    W p l e room_1 s m #[Value.ref b] below meth c H locs (fc cx) (fs cx) Q (F0 m 486 ls []) := by
  obtain ⟨hx, hb, hr, hml, hown0, hts, hX, hbl, hlocks, hgv⟩ := C0
  obtain ⟨hSP, hSD, hM, hMD, hap, hS, hR, h4n⟩ := hLW
  have hown : s.vm.findClass R_Law = some m.cls := hown0
  have ht : ∀ wd ∈ sy_T, wd.before #[Value.ref b] s = true := fun wd h => hts wd (List.mem_filter.mp h).1
  have hbA : ¬ (fun q : Nat => s.heap.size ≤ q) b := Nat.not_le.mpr hbl
  have e0 := hR.s0
  have e1 := hR.s1
  have e2 := hR.s2
  have e3 := hR.s3
  have e4 := hR.s4
  have b0 := hR.b0
  have b1 := hR.b1
  have b2 := hR.b2
  have b3 := hR.b3
  have hcb : cs_b cx := cs_bR hR (by omega)
  obtain ⟨hd, hs, hn, hc, hm, hb4⟩ := id hcb
  have hrc : fc cx + 0 ≤ room_1.cells := by show _ ≤ 600000; unfold fc; omega
  have hrs : fs cx + 0 ≤ room_1.slots := by show _ ≤ 7302250; unfold fs; omega
  refine lv_aload_n hx hb d_Law_law_486 rfl (lv_at hl 2 rfl) ?_
  refine lv_aload_n hx hb d_Law_law_487 rfl (lv_at hl 3 rfl) ?_
  refine lv_iload_n hx hb d_Law_law_488 rfl (lv_at hl 0 rfl) ?_
  refine lv_iconst (v := 1) hx hb d_Law_law_489 (by decide) ?_
  refine lv_iadd hx hb d_Law_law_490 ?_
  refine sy_ti (y := nI (i + 1)) (nI_add i 1) ?_
  refine va_sld hx hb hX hbl hbA hS (vp_in_nI (n := i + 1) (by omega) (by omega)) d_Law_law_491 ?_
  refine sy_ti (y := xs (i + 1)) (by rw [nI_clamp (by omega)]) ?_
  refine lv_aload_n hx hb d_Law_law_492 rfl (lv_at hl 3 rfl) ?_
  refine lv_iload_n hx hb d_Law_law_493 rfl (lv_at hl 0 rfl) ?_
  refine lv_iconst (v := 2) hx hb d_Law_law_494 (by decide) ?_
  refine lv_iadd hx hb d_Law_law_495 ?_
  refine sy_ti (y := nI (i + 2)) (nI_add i 2) ?_
  refine va_sld hx hb hX hbl hbA hS (vp_in_nI (n := i + 2) (by omega) (by omega)) d_Law_law_496 ?_
  refine sy_ti (y := xs (i + 2)) (by rw [nI_clamp (by omega)]) ?_
  refine lv_aload_n hx hb d_Law_law_497 rfl (lv_at hl 3 rfl) ?_
  refine lv_iload_n hx hb d_Law_law_498 rfl (lv_at hl 0 rfl) ?_
  refine lv_iconst (v := 3) hx hb d_Law_law_499 (by decide) ?_
  refine lv_iadd hx hb d_Law_law_500 ?_
  refine sy_ti (y := nI (i + 3)) (nI_add i 3) ?_
  refine va_sld hx hb hX hbl hbA hS (vp_in_nI (n := i + 3) (by omega) (by omega)) d_Law_law_501 ?_
  refine sy_ti (y := xs (i + 3)) (by rw [nI_clamp (by omega)]) ?_
  refine lv_aload_n hx hb d_Law_law_502 rfl (lv_at hl 3 rfl) ?_
  refine lv_iload_n hx hb d_Law_law_503 rfl (lv_at hl 0 rfl) ?_
  refine lv_iconst (v := 4) hx hb d_Law_law_504 (by decide) ?_
  refine lv_iadd hx hb d_Law_law_505 ?_
  refine sy_ti (y := nI (i + 4)) (nI_add i 4) ?_
  refine va_sld hx hb hX hbl hbA hS (vp_in_nI (n := i + 4) (by omega) (by omega)) d_Law_law_506 ?_
  refine sy_ti (y := xs (i + 4)) (by rw [nI_clamp (by omega)]) ?_
  refine lv_i2l (v := (xs (i + 4)).toInt64) hx hb d_Law_law_507 rfl ?_
  refine lv_bipush (v := 32) hx hb d_Law_law_508 (by decide) ?_
  refine lv_lshl (v := ((xs (i + 4)).toInt64) <<< ((32 : Int32).toInt64 &&& 63)) hx hb d_Law_law_510 rfl ?_
  refine lv_aload_n hx hb d_Law_law_511 rfl (lv_at hl 3 rfl) ?_
  refine lv_iload_n hx hb d_Law_law_512 rfl (lv_at hl 0 rfl) ?_
  refine lv_iconst (v := 5) hx hb d_Law_law_513 (by decide) ?_
  refine lv_iadd hx hb d_Law_law_514 ?_
  refine sy_ti (y := nI (i + 5)) (nI_add i 5) ?_
  refine va_sld hx hb hX hbl hbA hS (vp_in_nI (n := i + 5) (by omega) (by omega)) d_Law_law_515 ?_
  refine sy_ti (y := xs (i + 5)) (by rw [nI_clamp (by omega)]) ?_
  refine lv_i2l (v := (xs (i + 5)).toInt64) hx hb d_Law_law_516 rfl ?_
  refine lv_ldc2 (v := 4294967295) hx hb hown (ht _ m_726) d_Law_law_517 ?_
  refine lv_land hx hb d_Law_law_520 ?_
  refine lv_lor hx hb d_Law_law_521 ?_
  refine lv_aload_n hx hb d_Law_law_522 rfl (lv_at hl 3 rfl) ?_
  refine lv_iload_n hx hb d_Law_law_523 rfl (lv_at hl 0 rfl) ?_
  refine lv_bipush (v := 6) hx hb d_Law_law_524 (by decide) ?_
  refine lv_iadd hx hb d_Law_law_526 ?_
  refine sy_ti (y := nI (i + 6)) (nI_add i 6) ?_
  refine va_sld hx hb hX hbl hbA hS (vp_in_nI (n := i + 6) (by omega) (by omega)) d_Law_law_527 ?_
  refine sy_ti (y := xs (i + 6)) (by rw [nI_clamp (by omega)]) ?_
  refine lv_i2l (v := (xs (i + 6)).toInt64) hx hb d_Law_law_528 rfl ?_
  refine lv_bipush (v := 32) hx hb d_Law_law_529 (by decide) ?_
  refine lv_lshl (v := ((xs (i + 6)).toInt64) <<< ((32 : Int32).toInt64 &&& 63)) hx hb d_Law_law_531 rfl ?_
  refine lv_aload_n hx hb d_Law_law_532 rfl (lv_at hl 3 rfl) ?_
  refine lv_iload_n hx hb d_Law_law_533 rfl (lv_at hl 0 rfl) ?_
  refine lv_bipush (v := 7) hx hb d_Law_law_534 (by decide) ?_
  refine lv_iadd hx hb d_Law_law_536 ?_
  refine sy_ti (y := nI (i + 7)) (nI_add i 7) ?_
  refine va_sld hx hb hX hbl hbA hS (vp_in_nI (n := i + 7) (by omega) (by omega)) d_Law_law_537 ?_
  refine sy_ti (y := xs (i + 7)) (by rw [nI_clamp (by omega)]) ?_
  refine lv_i2l (v := (xs (i + 7)).toInt64) hx hb d_Law_law_538 rfl ?_
  refine lv_ldc2 (v := 4294967295) hx hb hown (ht _ m_726) d_Law_law_539 ?_
  refine lv_land hx hb d_Law_law_542 ?_
  refine lv_lor hx hb d_Law_law_543 ?_
  refine lv_aload_n hx hb d_Law_law_544 rfl (lv_at hl 3 rfl) ?_
  refine lv_iload_n hx hb d_Law_law_545 rfl (lv_at hl 0 rfl) ?_
  refine lv_bipush (v := 8) hx hb d_Law_law_546 (by decide) ?_
  refine lv_iadd hx hb d_Law_law_548 ?_
  refine sy_ti (y := nI (i + 8)) (nI_add i 8) ?_
  refine va_sld hx hb hX hbl hbA hS (vp_in_nI (n := i + 8) (by omega) (by omega)) d_Law_law_549 ?_
  refine sy_ti (y := xs (i + 8)) (by rw [nI_clamp (by omega)]) ?_
  refine lv_i2l (v := (xs (i + 8)).toInt64) hx hb d_Law_law_550 rfl ?_
  refine lv_bipush (v := 32) hx hb d_Law_law_551 (by decide) ?_
  refine lv_lshl (v := ((xs (i + 8)).toInt64) <<< ((32 : Int32).toInt64 &&& 63)) hx hb d_Law_law_553 rfl ?_
  refine lv_aload_n hx hb d_Law_law_554 rfl (lv_at hl 3 rfl) ?_
  refine lv_iload_n hx hb d_Law_law_555 rfl (lv_at hl 0 rfl) ?_
  refine lv_bipush (v := 9) hx hb d_Law_law_556 (by decide) ?_
  refine lv_iadd hx hb d_Law_law_558 ?_
  refine sy_ti (y := nI (i + 9)) (nI_add i 9) ?_
  refine va_sld hx hb hX hbl hbA hS (vp_in_nI (n := i + 9) (by omega) (by omega)) d_Law_law_559 ?_
  refine sy_ti (y := xs (i + 9)) (by rw [nI_clamp (by omega)]) ?_
  refine lv_i2l (v := (xs (i + 9)).toInt64) hx hb d_Law_law_560 rfl ?_
  refine lv_ldc2 (v := 4294967295) hx hb hown (ht _ m_726) d_Law_law_561 ?_
  refine lv_land hx hb d_Law_law_564 ?_
  refine lv_lor hx hb d_Law_law_565 ?_
  refine va_calli (sy_runV (As := [.int (xs (i + 1)), .int (xs (i + 2)), .int (xs (i + 3)), .long ((((xs (i + 4)).toInt64) <<< ((32 : Int32).toInt64 &&& 63)) ||| (((xs (i + 5)).toInt64) &&& 4294967295)), .long ((((xs (i + 6)).toInt64) <<< ((32 : Int32).toInt64 &&& 63)) ||| (((xs (i + 7)).toInt64) &&& 4294967295)), .long ((((xs (i + 8)).toInt64) <<< ((32 : Int32).toInt64 &&& 63)) ||| (((xs (i + 9)).toInt64) &&& 4294967295))]) (rest := []) (b := g 0) ⟨hx, hb, hml, hown, ht⟩ cl_Law_44 (s_correct l G g cx hcb (xs (i + 1)) (xs (i + 2)) (xs (i + 3)) ((((xs (i + 4)).toInt64) <<< ((32 : Int32).toInt64 &&& 63)) ||| (((xs (i + 5)).toInt64) &&& 4294967295)) ((((xs (i + 6)).toInt64) <<< ((32 : Int32).toInt64 &&& 63)) ||| (((xs (i + 7)).toInt64) &&& 4294967295)) ((((xs (i + 8)).toInt64) <<< ((32 : Int32).toInt64 &&& 63)) ||| (((xs (i + 9)).toInt64) &&& 4294967295))) hK ⟨hSP, ss_anyD hSD⟩ (va_recv hK.1 (sys_x hSP) (ci := 0) (q0 := 0) rfl rfl) rfl nm_DeviceSets_correct rfl rfl ⟨Nat.le_of_ble_eq_true rfl, Nat.le_of_ble_eq_true rfl⟩ hl.1 (Nat.le_of_ble_eq_true rfl) d_Law_law_566 ⟨hrc, hrs⟩) hS (fun q _ h => ss_in hSD h) (fun q h => ss_in hSD h) (fun r9 u9 t9 H9 locs ht9 hvm9 hw9 hB9 hz9 hk9 hS => ?_)
  obtain ⟨hr9, hu9⟩ := hw9
  subst hr9
  subst hu9
  rw [ht9] at hB9
  have hM : va_P G.1 classes (mw G.2 ob ad sc mI mL mZ) H9 := lx_M hM hap hk9
  have hxa : ∀ i9 : sid, (sy_cell G.2 g (x_correct cx (xs (i + 1)) (xs (i + 2)) (xs (i + 3)) ((((xs (i + 4)).toInt64) <<< ((32 : Int32).toInt64 &&& 63)) ||| (((xs (i + 5)).toInt64) &&& 4294967295)) ((((xs (i + 6)).toInt64) <<< ((32 : Int32).toInt64 &&& 63)) ||| (((xs (i + 7)).toInt64) &&& 4294967295)) ((((xs (i + 8)).toInt64) <<< ((32 : Int32).toInt64 &&& 63)) ||| (((xs (i + 9)).toInt64) &&& 4294967295))).2 i9).map Prod.fst = (sy_cell G.2 g cx i9).map Prod.fst := fun i9 => xa_correct i9
  have hSP : sys_P G g (x_correct cx (xs (i + 1)) (xs (i + 2)) (xs (i + 3)) ((((xs (i + 4)).toInt64) <<< ((32 : Int32).toInt64 &&& 63)) ||| (((xs (i + 5)).toInt64) &&& 4294967295)) ((((xs (i + 6)).toInt64) <<< ((32 : Int32).toInt64 &&& 63)) ||| (((xs (i + 7)).toInt64) &&& 4294967295)) ((((xs (i + 8)).toInt64) <<< ((32 : Int32).toInt64 &&& 63)) ||| (((xs (i + 9)).toInt64) &&& 4294967295))).2 H9 := hB9
  have hSD : sys_D (fun q => s.heap.size ≤ q) G g (x_correct cx (xs (i + 1)) (xs (i + 2)) (xs (i + 3)) ((((xs (i + 4)).toInt64) <<< ((32 : Int32).toInt64 &&& 63)) ||| (((xs (i + 5)).toInt64) &&& 4294967295)) ((((xs (i + 6)).toInt64) <<< ((32 : Int32).toInt64 &&& 63)) ||| (((xs (i + 7)).toInt64) &&& 4294967295)) ((((xs (i + 8)).toInt64) <<< ((32 : Int32).toInt64 &&& 63)) ||| (((xs (i + 9)).toInt64) &&& 4294967295))).2 := ss_setD hSD hxa
  have hap : ∀ q, sys_A G g (x_correct cx (xs (i + 1)) (xs (i + 2)) (xs (i + 3)) ((((xs (i + 4)).toInt64) <<< ((32 : Int32).toInt64 &&& 63)) ||| (((xs (i + 5)).toInt64) &&& 4294967295)) ((((xs (i + 6)).toInt64) <<< ((32 : Int32).toInt64 &&& 63)) ||| (((xs (i + 7)).toInt64) &&& 4294967295)) ((((xs (i + 8)).toInt64) <<< ((32 : Int32).toInt64 &&& 63)) ||| (((xs (i + 9)).toInt64) &&& 4294967295))).2 q → ¬ sy_A (mw G.2 ob ad sc mI mL mZ) q := fun q h => hap q (ss_Aa hxa h)
  generalize H9 = H at hSP hM hS ⊢
  have hf9 : fc (x_correct cx (xs (i + 1)) (xs (i + 2)) (xs (i + 3)) ((((xs (i + 4)).toInt64) <<< ((32 : Int32).toInt64 &&& 63)) ||| (((xs (i + 5)).toInt64) &&& 4294967295)) ((((xs (i + 6)).toInt64) <<< ((32 : Int32).toInt64 &&& 63)) ||| (((xs (i + 7)).toInt64) &&& 4294967295)) ((((xs (i + 8)).toInt64) <<< ((32 : Int32).toInt64 &&& 63)) ||| (((xs (i + 9)).toInt64) &&& 4294967295))).2 = fc cx ∧ fs (x_correct cx (xs (i + 1)) (xs (i + 2)) (xs (i + 3)) ((((xs (i + 4)).toInt64) <<< ((32 : Int32).toInt64 &&& 63)) ||| (((xs (i + 5)).toInt64) &&& 4294967295)) ((((xs (i + 6)).toInt64) <<< ((32 : Int32).toInt64 &&& 63)) ||| (((xs (i + 7)).toInt64) &&& 4294967295)) ((((xs (i + 8)).toInt64) <<< ((32 : Int32).toInt64 &&& 63)) ||| (((xs (i + 9)).toInt64) &&& 4294967295))).2 = fs cx := f_correct
  refine lv_aload_n hx hb d_Law_law_569 rfl (lv_at hl 1 rfl) ?_
  refine lv_aload_n hx hb d_Law_law_570 rfl (lv_at hl 3 rfl) ?_
  refine lv_iload_n hx hb d_Law_law_571 rfl (lv_at hl 0 rfl) ?_
  refine lv_iconst (v := 1) hx hb d_Law_law_572 (by decide) ?_
  refine lv_iadd hx hb d_Law_law_573 ?_
  refine sy_ti (y := nI (i + 1)) (nI_add i 1) ?_
  refine va_sld hx hb hX hbl hbA hS (vp_in_nI (n := i + 1) (by omega) (by omega)) d_Law_law_574 ?_
  refine sy_ti (y := xs (i + 1)) (by rw [nI_clamp (by omega)]) ?_
  refine lv_aload_n hx hb d_Law_law_575 rfl (lv_at hl 3 rfl) ?_
  refine lv_iload_n hx hb d_Law_law_576 rfl (lv_at hl 0 rfl) ?_
  refine lv_iconst (v := 2) hx hb d_Law_law_577 (by decide) ?_
  refine lv_iadd hx hb d_Law_law_578 ?_
  refine sy_ti (y := nI (i + 2)) (nI_add i 2) ?_
  refine va_sld hx hb hX hbl hbA hS (vp_in_nI (n := i + 2) (by omega) (by omega)) d_Law_law_579 ?_
  refine sy_ti (y := xs (i + 2)) (by rw [nI_clamp (by omega)]) ?_
  refine lv_aload_n hx hb d_Law_law_580 rfl (lv_at hl 3 rfl) ?_
  refine lv_iload_n hx hb d_Law_law_581 rfl (lv_at hl 0 rfl) ?_
  refine lv_iconst (v := 3) hx hb d_Law_law_582 (by decide) ?_
  refine lv_iadd hx hb d_Law_law_583 ?_
  refine sy_ti (y := nI (i + 3)) (nI_add i 3) ?_
  refine va_sld hx hb hX hbl hbA hS (vp_in_nI (n := i + 3) (by omega) (by omega)) d_Law_law_584 ?_
  refine sy_ti (y := xs (i + 3)) (by rw [nI_clamp (by omega)]) ?_
  refine lv_aload_n hx hb d_Law_law_585 rfl (lv_at hl 3 rfl) ?_
  refine lv_iload_n hx hb d_Law_law_586 rfl (lv_at hl 0 rfl) ?_
  refine lv_iconst (v := 4) hx hb d_Law_law_587 (by decide) ?_
  refine lv_iadd hx hb d_Law_law_588 ?_
  refine sy_ti (y := nI (i + 4)) (nI_add i 4) ?_
  refine va_sld hx hb hX hbl hbA hS (vp_in_nI (n := i + 4) (by omega) (by omega)) d_Law_law_589 ?_
  refine sy_ti (y := xs (i + 4)) (by rw [nI_clamp (by omega)]) ?_
  refine lv_i2l (v := (xs (i + 4)).toInt64) hx hb d_Law_law_590 rfl ?_
  refine lv_bipush (v := 32) hx hb d_Law_law_591 (by decide) ?_
  refine lv_lshl (v := ((xs (i + 4)).toInt64) <<< ((32 : Int32).toInt64 &&& 63)) hx hb d_Law_law_593 rfl ?_
  refine lv_aload_n hx hb d_Law_law_594 rfl (lv_at hl 3 rfl) ?_
  refine lv_iload_n hx hb d_Law_law_595 rfl (lv_at hl 0 rfl) ?_
  refine lv_iconst (v := 5) hx hb d_Law_law_596 (by decide) ?_
  refine lv_iadd hx hb d_Law_law_597 ?_
  refine sy_ti (y := nI (i + 5)) (nI_add i 5) ?_
  refine va_sld hx hb hX hbl hbA hS (vp_in_nI (n := i + 5) (by omega) (by omega)) d_Law_law_598 ?_
  refine sy_ti (y := xs (i + 5)) (by rw [nI_clamp (by omega)]) ?_
  refine lv_i2l (v := (xs (i + 5)).toInt64) hx hb d_Law_law_599 rfl ?_
  refine lv_ldc2 (v := 4294967295) hx hb hown (ht _ m_726) d_Law_law_600 ?_
  refine lv_land hx hb d_Law_law_603 ?_
  refine lv_lor hx hb d_Law_law_604 ?_
  refine lv_aload_n hx hb d_Law_law_605 rfl (lv_at hl 3 rfl) ?_
  refine lv_iload_n hx hb d_Law_law_606 rfl (lv_at hl 0 rfl) ?_
  refine lv_bipush (v := 6) hx hb d_Law_law_607 (by decide) ?_
  refine lv_iadd hx hb d_Law_law_609 ?_
  refine sy_ti (y := nI (i + 6)) (nI_add i 6) ?_
  refine va_sld hx hb hX hbl hbA hS (vp_in_nI (n := i + 6) (by omega) (by omega)) d_Law_law_610 ?_
  refine sy_ti (y := xs (i + 6)) (by rw [nI_clamp (by omega)]) ?_
  refine lv_i2l (v := (xs (i + 6)).toInt64) hx hb d_Law_law_611 rfl ?_
  refine lv_bipush (v := 32) hx hb d_Law_law_612 (by decide) ?_
  refine lv_lshl (v := ((xs (i + 6)).toInt64) <<< ((32 : Int32).toInt64 &&& 63)) hx hb d_Law_law_614 rfl ?_
  refine lv_aload_n hx hb d_Law_law_615 rfl (lv_at hl 3 rfl) ?_
  refine lv_iload_n hx hb d_Law_law_616 rfl (lv_at hl 0 rfl) ?_
  refine lv_bipush (v := 7) hx hb d_Law_law_617 (by decide) ?_
  refine lv_iadd hx hb d_Law_law_619 ?_
  refine sy_ti (y := nI (i + 7)) (nI_add i 7) ?_
  refine va_sld hx hb hX hbl hbA hS (vp_in_nI (n := i + 7) (by omega) (by omega)) d_Law_law_620 ?_
  refine sy_ti (y := xs (i + 7)) (by rw [nI_clamp (by omega)]) ?_
  refine lv_i2l (v := (xs (i + 7)).toInt64) hx hb d_Law_law_621 rfl ?_
  refine lv_ldc2 (v := 4294967295) hx hb hown (ht _ m_726) d_Law_law_622 ?_
  refine lv_land hx hb d_Law_law_625 ?_
  refine lv_lor hx hb d_Law_law_626 ?_
  refine lv_aload_n hx hb d_Law_law_627 rfl (lv_at hl 3 rfl) ?_
  refine lv_iload_n hx hb d_Law_law_628 rfl (lv_at hl 0 rfl) ?_
  refine lv_bipush (v := 8) hx hb d_Law_law_629 (by decide) ?_
  refine lv_iadd hx hb d_Law_law_631 ?_
  refine sy_ti (y := nI (i + 8)) (nI_add i 8) ?_
  refine va_sld hx hb hX hbl hbA hS (vp_in_nI (n := i + 8) (by omega) (by omega)) d_Law_law_632 ?_
  refine sy_ti (y := xs (i + 8)) (by rw [nI_clamp (by omega)]) ?_
  refine lv_i2l (v := (xs (i + 8)).toInt64) hx hb d_Law_law_633 rfl ?_
  refine lv_bipush (v := 32) hx hb d_Law_law_634 (by decide) ?_
  refine lv_lshl (v := ((xs (i + 8)).toInt64) <<< ((32 : Int32).toInt64 &&& 63)) hx hb d_Law_law_636 rfl ?_
  refine lv_aload_n hx hb d_Law_law_637 rfl (lv_at hl 3 rfl) ?_
  refine lv_iload_n hx hb d_Law_law_638 rfl (lv_at hl 0 rfl) ?_
  refine lv_bipush (v := 9) hx hb d_Law_law_639 (by decide) ?_
  refine lv_iadd hx hb d_Law_law_641 ?_
  refine sy_ti (y := nI (i + 9)) (nI_add i 9) ?_
  refine va_sld hx hb hX hbl hbA hS (vp_in_nI (n := i + 9) (by omega) (by omega)) d_Law_law_642 ?_
  refine sy_ti (y := xs (i + 9)) (by rw [nI_clamp (by omega)]) ?_
  refine lv_i2l (v := (xs (i + 9)).toInt64) hx hb d_Law_law_643 rfl ?_
  refine lv_ldc2 (v := 4294967295) hx hb hown (ht _ m_726) d_Law_law_644 ?_
  refine lv_land hx hb d_Law_law_647 ?_
  refine lv_lor hx hb d_Law_law_648 ?_
  refine va_calli (sy_runV (As := [.int (xs (i + 1)), .int (xs (i + 2)), .int (xs (i + 3)), .long ((((xs (i + 4)).toInt64) <<< ((32 : Int32).toInt64 &&& 63)) ||| (((xs (i + 5)).toInt64) &&& 4294967295)), .long ((((xs (i + 6)).toInt64) <<< ((32 : Int32).toInt64 &&& 63)) ||| (((xs (i + 7)).toInt64) &&& 4294967295)), .long ((((xs (i + 8)).toInt64) <<< ((32 : Int32).toInt64 &&& 63)) ||| (((xs (i + 9)).toInt64) &&& 4294967295))]) (rest := [.int (bI ((x_correct cx (xs (i + 1)) (xs (i + 2)) (xs (i + 3)) ((((xs (i + 4)).toInt64) <<< ((32 : Int32).toInt64 &&& 63)) ||| (((xs (i + 5)).toInt64) &&& 4294967295)) ((((xs (i + 6)).toInt64) <<< ((32 : Int32).toInt64 &&& 63)) ||| (((xs (i + 7)).toInt64) &&& 4294967295)) ((((xs (i + 8)).toInt64) <<< ((32 : Int32).toInt64 &&& 63)) ||| (((xs (i + 9)).toInt64) &&& 4294967295))).1))]) (b := ob) ⟨hx, hb, hml, hown, ht⟩ cl_Law_48 (c_Model_correct l G ob ad sc mI mL mZ (xs (i + 1)) (xs (i + 2)) (xs (i + 3)) ((((xs (i + 4)).toInt64) <<< ((32 : Int32).toInt64 &&& 63)) ||| (((xs (i + 5)).toInt64) &&& 4294967295)) ((((xs (i + 6)).toInt64) <<< ((32 : Int32).toInt64 &&& 63)) ||| (((xs (i + 7)).toInt64) &&& 4294967295)) ((((xs (i + 8)).toInt64) <<< ((32 : Int32).toInt64 &&& 63)) ||| (((xs (i + 9)).toInt64) &&& 4294967295)) (by omega) (by omega) (by omega)) hK ⟨hM, sy_any hMD⟩ (va_recv hK.1 hM (ci := 7) (q0 := 0) rfl rfl) rfl nm_Model_correct rfl rfl ⟨Nat.le_of_ble_eq_true rfl, Nat.le_of_ble_eq_true rfl⟩ hl.1 (Nat.le_of_ble_eq_true rfl) d_Law_law_649 ⟨hrc, hrs⟩) hS (fun q _ h => sy_in hMD h) (fun q h => sy_in hMD h) (fun r9 u9 t9 H9 locs ht9 hvm9 hw9 hB9 hz9 hk9 hS => ?_)
  obtain ⟨hr9, hu9⟩ := hw9
  subst hr9
  subst hu9
  rw [ht9] at hB9
  have hSP : sys_P G g (x_correct cx (xs (i + 1)) (xs (i + 2)) (xs (i + 3)) ((((xs (i + 4)).toInt64) <<< ((32 : Int32).toInt64 &&& 63)) ||| (((xs (i + 5)).toInt64) &&& 4294967295)) ((((xs (i + 6)).toInt64) <<< ((32 : Int32).toInt64 &&& 63)) ||| (((xs (i + 7)).toInt64) &&& 4294967295)) ((((xs (i + 8)).toInt64) <<< ((32 : Int32).toInt64 &&& 63)) ||| (((xs (i + 9)).toInt64) &&& 4294967295))).2 H9 := lx_S hSP hap hk9
  have hM : va_P G.1 classes (mw G.2 ob ad (mo_correct sc mI mL mZ (xs (i + 1)) (xs (i + 2)) (xs (i + 3)) ((((xs (i + 4)).toInt64) <<< ((32 : Int32).toInt64 &&& 63)) ||| (((xs (i + 5)).toInt64) &&& 4294967295)) ((((xs (i + 6)).toInt64) <<< ((32 : Int32).toInt64 &&& 63)) ||| (((xs (i + 7)).toInt64) &&& 4294967295)) ((((xs (i + 8)).toInt64) <<< ((32 : Int32).toInt64 &&& 63)) ||| (((xs (i + 9)).toInt64) &&& 4294967295))).2.1 (mo_correct sc mI mL mZ (xs (i + 1)) (xs (i + 2)) (xs (i + 3)) ((((xs (i + 4)).toInt64) <<< ((32 : Int32).toInt64 &&& 63)) ||| (((xs (i + 5)).toInt64) &&& 4294967295)) ((((xs (i + 6)).toInt64) <<< ((32 : Int32).toInt64 &&& 63)) ||| (((xs (i + 7)).toInt64) &&& 4294967295)) ((((xs (i + 8)).toInt64) <<< ((32 : Int32).toInt64 &&& 63)) ||| (((xs (i + 9)).toInt64) &&& 4294967295))).2.2.1 (mo_correct sc mI mL mZ (xs (i + 1)) (xs (i + 2)) (xs (i + 3)) ((((xs (i + 4)).toInt64) <<< ((32 : Int32).toInt64 &&& 63)) ||| (((xs (i + 5)).toInt64) &&& 4294967295)) ((((xs (i + 6)).toInt64) <<< ((32 : Int32).toInt64 &&& 63)) ||| (((xs (i + 7)).toInt64) &&& 4294967295)) ((((xs (i + 8)).toInt64) <<< ((32 : Int32).toInt64 &&& 63)) ||| (((xs (i + 9)).toInt64) &&& 4294967295))).2.2.2.1 (mo_correct sc mI mL mZ (xs (i + 1)) (xs (i + 2)) (xs (i + 3)) ((((xs (i + 4)).toInt64) <<< ((32 : Int32).toInt64 &&& 63)) ||| (((xs (i + 5)).toInt64) &&& 4294967295)) ((((xs (i + 6)).toInt64) <<< ((32 : Int32).toInt64 &&& 63)) ||| (((xs (i + 7)).toInt64) &&& 4294967295)) ((((xs (i + 8)).toInt64) <<< ((32 : Int32).toInt64 &&& 63)) ||| (((xs (i + 9)).toInt64) &&& 4294967295))).2.2.2.2) H9 := hB9
  have hMD : va_D (fun q => s.heap.size ≤ q) (mw G.2 ob ad (mo_correct sc mI mL mZ (xs (i + 1)) (xs (i + 2)) (xs (i + 3)) ((((xs (i + 4)).toInt64) <<< ((32 : Int32).toInt64 &&& 63)) ||| (((xs (i + 5)).toInt64) &&& 4294967295)) ((((xs (i + 6)).toInt64) <<< ((32 : Int32).toInt64 &&& 63)) ||| (((xs (i + 7)).toInt64) &&& 4294967295)) ((((xs (i + 8)).toInt64) <<< ((32 : Int32).toInt64 &&& 63)) ||| (((xs (i + 9)).toInt64) &&& 4294967295))).2.1 (mo_correct sc mI mL mZ (xs (i + 1)) (xs (i + 2)) (xs (i + 3)) ((((xs (i + 4)).toInt64) <<< ((32 : Int32).toInt64 &&& 63)) ||| (((xs (i + 5)).toInt64) &&& 4294967295)) ((((xs (i + 6)).toInt64) <<< ((32 : Int32).toInt64 &&& 63)) ||| (((xs (i + 7)).toInt64) &&& 4294967295)) ((((xs (i + 8)).toInt64) <<< ((32 : Int32).toInt64 &&& 63)) ||| (((xs (i + 9)).toInt64) &&& 4294967295))).2.2.1 (mo_correct sc mI mL mZ (xs (i + 1)) (xs (i + 2)) (xs (i + 3)) ((((xs (i + 4)).toInt64) <<< ((32 : Int32).toInt64 &&& 63)) ||| (((xs (i + 5)).toInt64) &&& 4294967295)) ((((xs (i + 6)).toInt64) <<< ((32 : Int32).toInt64 &&& 63)) ||| (((xs (i + 7)).toInt64) &&& 4294967295)) ((((xs (i + 8)).toInt64) <<< ((32 : Int32).toInt64 &&& 63)) ||| (((xs (i + 9)).toInt64) &&& 4294967295))).2.2.2.1 (mo_correct sc mI mL mZ (xs (i + 1)) (xs (i + 2)) (xs (i + 3)) ((((xs (i + 4)).toInt64) <<< ((32 : Int32).toInt64 &&& 63)) ||| (((xs (i + 5)).toInt64) &&& 4294967295)) ((((xs (i + 6)).toInt64) <<< ((32 : Int32).toInt64 &&& 63)) ||| (((xs (i + 7)).toInt64) &&& 4294967295)) ((((xs (i + 8)).toInt64) <<< ((32 : Int32).toInt64 &&& 63)) ||| (((xs (i + 9)).toInt64) &&& 4294967295))).2.2.2.2) := sy_Da hMD rfl
  have hap : ∀ q, sys_A G g (x_correct cx (xs (i + 1)) (xs (i + 2)) (xs (i + 3)) ((((xs (i + 4)).toInt64) <<< ((32 : Int32).toInt64 &&& 63)) ||| (((xs (i + 5)).toInt64) &&& 4294967295)) ((((xs (i + 6)).toInt64) <<< ((32 : Int32).toInt64 &&& 63)) ||| (((xs (i + 7)).toInt64) &&& 4294967295)) ((((xs (i + 8)).toInt64) <<< ((32 : Int32).toInt64 &&& 63)) ||| (((xs (i + 9)).toInt64) &&& 4294967295))).2 q → ¬ sy_A (mw G.2 ob ad (mo_correct sc mI mL mZ (xs (i + 1)) (xs (i + 2)) (xs (i + 3)) ((((xs (i + 4)).toInt64) <<< ((32 : Int32).toInt64 &&& 63)) ||| (((xs (i + 5)).toInt64) &&& 4294967295)) ((((xs (i + 6)).toInt64) <<< ((32 : Int32).toInt64 &&& 63)) ||| (((xs (i + 7)).toInt64) &&& 4294967295)) ((((xs (i + 8)).toInt64) <<< ((32 : Int32).toInt64 &&& 63)) ||| (((xs (i + 9)).toInt64) &&& 4294967295))).2.1 (mo_correct sc mI mL mZ (xs (i + 1)) (xs (i + 2)) (xs (i + 3)) ((((xs (i + 4)).toInt64) <<< ((32 : Int32).toInt64 &&& 63)) ||| (((xs (i + 5)).toInt64) &&& 4294967295)) ((((xs (i + 6)).toInt64) <<< ((32 : Int32).toInt64 &&& 63)) ||| (((xs (i + 7)).toInt64) &&& 4294967295)) ((((xs (i + 8)).toInt64) <<< ((32 : Int32).toInt64 &&& 63)) ||| (((xs (i + 9)).toInt64) &&& 4294967295))).2.2.1 (mo_correct sc mI mL mZ (xs (i + 1)) (xs (i + 2)) (xs (i + 3)) ((((xs (i + 4)).toInt64) <<< ((32 : Int32).toInt64 &&& 63)) ||| (((xs (i + 5)).toInt64) &&& 4294967295)) ((((xs (i + 6)).toInt64) <<< ((32 : Int32).toInt64 &&& 63)) ||| (((xs (i + 7)).toInt64) &&& 4294967295)) ((((xs (i + 8)).toInt64) <<< ((32 : Int32).toInt64 &&& 63)) ||| (((xs (i + 9)).toInt64) &&& 4294967295))).2.2.2.1 (mo_correct sc mI mL mZ (xs (i + 1)) (xs (i + 2)) (xs (i + 3)) ((((xs (i + 4)).toInt64) <<< ((32 : Int32).toInt64 &&& 63)) ||| (((xs (i + 5)).toInt64) &&& 4294967295)) ((((xs (i + 6)).toInt64) <<< ((32 : Int32).toInt64 &&& 63)) ||| (((xs (i + 7)).toInt64) &&& 4294967295)) ((((xs (i + 8)).toInt64) <<< ((32 : Int32).toInt64 &&& 63)) ||| (((xs (i + 9)).toInt64) &&& 4294967295))).2.2.2.2) q := fun q h h2 => hap q h (sy_Aa (ws := mw G.2 ob ad sc mI mL mZ) (ws' := mw G.2 ob ad (mo_correct sc mI mL mZ (xs (i + 1)) (xs (i + 2)) (xs (i + 3)) ((((xs (i + 4)).toInt64) <<< ((32 : Int32).toInt64 &&& 63)) ||| (((xs (i + 5)).toInt64) &&& 4294967295)) ((((xs (i + 6)).toInt64) <<< ((32 : Int32).toInt64 &&& 63)) ||| (((xs (i + 7)).toInt64) &&& 4294967295)) ((((xs (i + 8)).toInt64) <<< ((32 : Int32).toInt64 &&& 63)) ||| (((xs (i + 9)).toInt64) &&& 4294967295))).2.1 (mo_correct sc mI mL mZ (xs (i + 1)) (xs (i + 2)) (xs (i + 3)) ((((xs (i + 4)).toInt64) <<< ((32 : Int32).toInt64 &&& 63)) ||| (((xs (i + 5)).toInt64) &&& 4294967295)) ((((xs (i + 6)).toInt64) <<< ((32 : Int32).toInt64 &&& 63)) ||| (((xs (i + 7)).toInt64) &&& 4294967295)) ((((xs (i + 8)).toInt64) <<< ((32 : Int32).toInt64 &&& 63)) ||| (((xs (i + 9)).toInt64) &&& 4294967295))).2.2.1 (mo_correct sc mI mL mZ (xs (i + 1)) (xs (i + 2)) (xs (i + 3)) ((((xs (i + 4)).toInt64) <<< ((32 : Int32).toInt64 &&& 63)) ||| (((xs (i + 5)).toInt64) &&& 4294967295)) ((((xs (i + 6)).toInt64) <<< ((32 : Int32).toInt64 &&& 63)) ||| (((xs (i + 7)).toInt64) &&& 4294967295)) ((((xs (i + 8)).toInt64) <<< ((32 : Int32).toInt64 &&& 63)) ||| (((xs (i + 9)).toInt64) &&& 4294967295))).2.2.2.1 (mo_correct sc mI mL mZ (xs (i + 1)) (xs (i + 2)) (xs (i + 3)) ((((xs (i + 4)).toInt64) <<< ((32 : Int32).toInt64 &&& 63)) ||| (((xs (i + 5)).toInt64) &&& 4294967295)) ((((xs (i + 6)).toInt64) <<< ((32 : Int32).toInt64 &&& 63)) ||| (((xs (i + 7)).toInt64) &&& 4294967295)) ((((xs (i + 8)).toInt64) <<< ((32 : Int32).toInt64 &&& 63)) ||| (((xs (i + 9)).toInt64) &&& 4294967295))).2.2.2.2) rfl h2)
  generalize H9 = H at hSP hM hS ⊢
  have hE := e_correct hR (xs (i + 1)) (xs (i + 2)) (xs (i + 3)) ((((xs (i + 4)).toInt64) <<< ((32 : Int32).toInt64 &&& 63)) ||| (((xs (i + 5)).toInt64) &&& 4294967295)) ((((xs (i + 6)).toInt64) <<< ((32 : Int32).toInt64 &&& 63)) ||| (((xs (i + 7)).toInt64) &&& 4294967295)) ((((xs (i + 8)).toInt64) <<< ((32 : Int32).toInt64 &&& 63)) ||| (((xs (i + 9)).toInt64) &&& 4294967295))
  have hE9 := hE.1
  have hR := hE.2
  have hq4 : (mo_correct sc mI mL mZ (xs (i + 1)) (xs (i + 2)) (xs (i + 3)) ((((xs (i + 4)).toInt64) <<< ((32 : Int32).toInt64 &&& 63)) ||| (((xs (i + 5)).toInt64) &&& 4294967295)) ((((xs (i + 6)).toInt64) <<< ((32 : Int32).toInt64 &&& 63)) ||| (((xs (i + 7)).toInt64) &&& 4294967295)) ((((xs (i + 8)).toInt64) <<< ((32 : Int32).toInt64 &&& 63)) ||| (((xs (i + 9)).toInt64) &&& 4294967295))).2.1 4 ≤ sc 4 + 1 := q_correct
  refine lv_icmp_eq (tgt := 1384) hx hb d_Law_law_652 (by decide) (fun c_1 => ?_) (fun c_1 => ?_)
  · have c_1 := bI_i c_1
    rw [← hf9.1, ← hf9.2]
    exact kk g (x_correct cx (xs (i + 1)) (xs (i + 2)) (xs (i + 3)) ((((xs (i + 4)).toInt64) <<< ((32 : Int32).toInt64 &&& 63)) ||| (((xs (i + 5)).toInt64) &&& 4294967295)) ((((xs (i + 6)).toInt64) <<< ((32 : Int32).toInt64 &&& 63)) ||| (((xs (i + 7)).toInt64) &&& 4294967295)) ((((xs (i + 8)).toInt64) <<< ((32 : Int32).toInt64 &&& 63)) ||| (((xs (i + 9)).toInt64) &&& 4294967295))).2 (mo_correct sc mI mL mZ (xs (i + 1)) (xs (i + 2)) (xs (i + 3)) ((((xs (i + 4)).toInt64) <<< ((32 : Int32).toInt64 &&& 63)) ||| (((xs (i + 5)).toInt64) &&& 4294967295)) ((((xs (i + 6)).toInt64) <<< ((32 : Int32).toInt64 &&& 63)) ||| (((xs (i + 7)).toInt64) &&& 4294967295)) ((((xs (i + 8)).toInt64) <<< ((32 : Int32).toInt64 &&& 63)) ||| (((xs (i + 9)).toInt64) &&& 4294967295))).2.1 (mo_correct sc mI mL mZ (xs (i + 1)) (xs (i + 2)) (xs (i + 3)) ((((xs (i + 4)).toInt64) <<< ((32 : Int32).toInt64 &&& 63)) ||| (((xs (i + 5)).toInt64) &&& 4294967295)) ((((xs (i + 6)).toInt64) <<< ((32 : Int32).toInt64 &&& 63)) ||| (((xs (i + 7)).toInt64) &&& 4294967295)) ((((xs (i + 8)).toInt64) <<< ((32 : Int32).toInt64 &&& 63)) ||| (((xs (i + 9)).toInt64) &&& 4294967295))).2.2.1 (mo_correct sc mI mL mZ (xs (i + 1)) (xs (i + 2)) (xs (i + 3)) ((((xs (i + 4)).toInt64) <<< ((32 : Int32).toInt64 &&& 63)) ||| (((xs (i + 5)).toInt64) &&& 4294967295)) ((((xs (i + 6)).toInt64) <<< ((32 : Int32).toInt64 &&& 63)) ||| (((xs (i + 7)).toInt64) &&& 4294967295)) ((((xs (i + 8)).toInt64) <<< ((32 : Int32).toInt64 &&& 63)) ||| (((xs (i + 9)).toInt64) &&& 4294967295))).2.2.2.1 (mo_correct sc mI mL mZ (xs (i + 1)) (xs (i + 2)) (xs (i + 3)) ((((xs (i + 4)).toInt64) <<< ((32 : Int32).toInt64 &&& 63)) ||| (((xs (i + 5)).toInt64) &&& 4294967295)) ((((xs (i + 6)).toInt64) <<< ((32 : Int32).toInt64 &&& 63)) ||| (((xs (i + 7)).toInt64) &&& 4294967295)) ((((xs (i + 8)).toInt64) <<< ((32 : Int32).toInt64 &&& 63)) ||| (((xs (i + 9)).toInt64) &&& 4294967295))).2.2.2.2 _ _ rfl ⟨hSP, hSD, hM, hMD, hap, hS, hR, by omega⟩
  · have c_1 : ¬ ((x_correct cx (xs (i + 1)) (xs (i + 2)) (xs (i + 3)) ((((xs (i + 4)).toInt64) <<< ((32 : Int32).toInt64 &&& 63)) ||| (((xs (i + 5)).toInt64) &&& 4294967295)) ((((xs (i + 6)).toInt64) <<< ((32 : Int32).toInt64 &&& 63)) ||| (((xs (i + 7)).toInt64) &&& 4294967295)) ((((xs (i + 8)).toInt64) <<< ((32 : Int32).toInt64 &&& 63)) ||| (((xs (i + 9)).toInt64) &&& 4294967295))).1) = ((mo_correct sc mI mL mZ (xs (i + 1)) (xs (i + 2)) (xs (i + 3)) ((((xs (i + 4)).toInt64) <<< ((32 : Int32).toInt64 &&& 63)) ||| (((xs (i + 5)).toInt64) &&& 4294967295)) ((((xs (i + 6)).toInt64) <<< ((32 : Int32).toInt64 &&& 63)) ||| (((xs (i + 7)).toInt64) &&& 4294967295)) ((((xs (i + 8)).toInt64) <<< ((32 : Int32).toInt64 &&& 63)) ||| (((xs (i + 9)).toInt64) &&& 4294967295))).1) := fun h9 => c_1 (by rw [h9])
    exact absurd hE9 c_1
