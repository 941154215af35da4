set_option maxHeartbeats 4000000 in
set_option maxRecDepth 100000 in
theorem law_c14 {p : Program} {l : Launch} {e : Env} {s : State} {m : MethodId} {below : List Frame} {meth : Method} {c : Code} {b L : Nat} {xs : Nat → Int32} (hL : L ≤ 5632) (C0 : lw_At p s m meth c b L xs) {G : sy_G} (hK : sy_K G s) {g : Nat → Nat} {cx : cs} {ob : Nat} {ad : Nat → Nat} {sc : Nat → Nat} {mI : Nat → Nat → Int32} {mL : Nat → Nat → Int64} {mZ : Nat → Nat → Bool} {H : Heap} {locs : List Loc} {i : Nat} (hi : i + 11 ≤ L) {Q : State → Prop} (hLW : LW s G g cx ob ad sc mI mL mZ i H locs) {ls : Array Slot} (hl : lv_has ls 4 [(3, .int (nI i)), (2, .ref ob), (1, .ref (g 0)), (0, .ref b)])
    (kk : ∀ (g9 : Nat → Nat) (cx9 : cs) (sc9 : Nat → Nat) (mI9 : Nat → Nat → Int32) (mL9 : Nat → Nat → Int64) (mZ9 : Nat → Nat → Bool) (H9 : Heap) (locs9 : List Loc), g9 0 = g 0 → LW s G g9 cx9 ob ad sc9 mI9 mL9 mZ9 (i + 1) H9 locs9 → W p l e room_1 s m #[Value.ref b] below meth c H9 locs9 (fc cx9) (fs cx9) Q (F0 m 1384 ls [])) :
    W p l e room_1 s m #[Value.ref b] below meth c H locs (fc cx) (fs cx) Q (F0 m 1024 ls []) := by
  obtain ⟨hx, hb, hr, hml, hown0, hts, hX, hbl, hlocks, hgv⟩ := C0
  obtain ⟨hSP, hSD, hM, hMD, hap, hS, hR, h4n⟩ := hLW
  have hown : s.vm.findClass R_Law = some m.cls := hown0
  have ht : ∀ wd ∈ sy_T, wd.before #[Value.ref b] s = true := fun wd h => hts wd (List.mem_filter.mp h).1
  have hbA : ¬ (fun q : Nat => s.heap.size ≤ q) b := Nat.not_le.mpr hbl
  have e0 := hR.s0
  have e1 := hR.s1
  have e2 := hR.s2
  have e3 := hR.s3
  have e4 := hR.s4
  have b0 := hR.b0
  have b1 := hR.b1
  have b2 := hR.b2
  have b3 := hR.b3
  have hcb : cs_b cx := cs_bR hR (by omega)
  obtain ⟨hd, hs, hn, hc, hm, hb4⟩ := id hcb
  have hrc : fc cx + 0 ≤ room_1.cells := by show _ ≤ 600000; unfold fc; omega
  have hrs : fs cx + 0 ≤ room_1.slots := by show _ ≤ 7302250; unfold fs; omega
  refine lv_aload_n hx hb d_Law_law_1024 rfl (lv_at hl 2 rfl) ?_
  refine lv_aload_n hx hb d_Law_law_1025 rfl (lv_at hl 3 rfl) ?_
  refine lv_iload_n hx hb d_Law_law_1026 rfl (lv_at hl 0 rfl) ?_
  refine lv_iconst (v := 1) hx hb d_Law_law_1027 (by decide) ?_
  refine lv_iadd hx hb d_Law_law_1028 ?_
  refine sy_ti (y := nI (i + 1)) (nI_add i 1) ?_
  refine va_sld hx hb hX hbl hbA hS (vp_in_nI (n := i + 1) (by omega) (by omega)) d_Law_law_1029 ?_
  refine sy_ti (y := xs (i + 1)) (by rw [nI_clamp (by omega)]) ?_
  refine va_calli (sy_runV (As := [.int (xs (i + 1))]) (rest := []) (b := g 0) ⟨hx, hb, hml, hown, ht⟩ cl_Law_82 (s_endBatch l G g cx hcb (xs (i + 1))) hK ⟨hSP, ss_anyD hSD⟩ (va_recv hK.1 (sys_x hSP) (ci := 0) (q0 := 0) rfl rfl) rfl nm_DeviceSets_endBatch rfl rfl ⟨Nat.le_of_ble_eq_true rfl, Nat.le_of_ble_eq_true rfl⟩ hl.1 (Nat.le_of_ble_eq_true rfl) d_Law_law_1030 ⟨hrc, hrs⟩) hS (fun q _ h => ss_in hSD h) (fun q h => ss_in hSD h) (fun r9 u9 t9 H9 locs ht9 hvm9 hw9 hB9 hz9 hk9 hS => ?_)
  obtain ⟨hr9, hu9⟩ := hw9
  subst hr9
  subst hu9
  rw [ht9] at hB9
  have hM : va_P G.1 classes (mw G.2 ob ad sc mI mL mZ) H9 := lx_M hM hap hk9
  have hxa : ∀ i9 : sid, (sy_cell G.2 g (x_end cx (xs (i + 1))).2 i9).map Prod.fst = (sy_cell G.2 g cx i9).map Prod.fst := fun i9 => xa_end i9
  have hSP : sys_P G g (x_end cx (xs (i + 1))).2 H9 := hB9
  have hSD : sys_D (fun q => s.heap.size ≤ q) G g (x_end cx (xs (i + 1))).2 := ss_setD hSD hxa
  have hap : ∀ q, sys_A G g (x_end cx (xs (i + 1))).2 q → ¬ sy_A (mw G.2 ob ad sc mI mL mZ) q := fun q h => hap q (ss_Aa hxa h)
  generalize H9 = H at hSP hM hS ⊢
  have hf9 : fc (x_end cx (xs (i + 1))).2 = fc cx ∧ fs (x_end cx (xs (i + 1))).2 = fs cx := f_end
  refine lv_aload_n hx hb d_Law_law_1033 rfl (lv_at hl 1 rfl) ?_
  refine lv_aload_n hx hb d_Law_law_1034 rfl (lv_at hl 3 rfl) ?_
  refine lv_iload_n hx hb d_Law_law_1035 rfl (lv_at hl 0 rfl) ?_
  refine lv_iconst (v := 1) hx hb d_Law_law_1036 (by decide) ?_
  refine lv_iadd hx hb d_Law_law_1037 ?_
  refine sy_ti (y := nI (i + 1)) (nI_add i 1) ?_
  refine va_sld hx hb hX hbl hbA hS (vp_in_nI (n := i + 1) (by omega) (by omega)) d_Law_law_1038 ?_
  refine sy_ti (y := xs (i + 1)) (by rw [nI_clamp (by omega)]) ?_
  refine va_calli (sy_runV (As := [.int (xs (i + 1))]) (rest := [.int (bI ((x_end cx (xs (i + 1))).1))]) (b := ob) ⟨hx, hb, hml, hown, ht⟩ cl_Law_86 (c_Model_endBatch l G ob ad sc mI mL mZ (xs (i + 1)) (by omega)) hK ⟨hM, sy_any hMD⟩ (va_recv hK.1 hM (ci := 7) (q0 := 0) rfl rfl) rfl nm_Model_endBatch rfl rfl ⟨Nat.le_of_ble_eq_true rfl, Nat.le_of_ble_eq_true rfl⟩ hl.1 (Nat.le_of_ble_eq_true rfl) d_Law_law_1039 ⟨hrc, hrs⟩) hS (fun q _ h => sy_in hMD h) (fun q h => sy_in hMD h) (fun r9 u9 t9 H9 locs ht9 hvm9 hw9 hB9 hz9 hk9 hS => ?_)
  obtain ⟨hr9, hu9⟩ := hw9
  subst hr9
  subst hu9
  rw [ht9] at hB9
  have hSP : sys_P G g (x_end cx (xs (i + 1))).2 H9 := lx_S hSP hap hk9
  have hM : va_P G.1 classes (mw G.2 ob ad (mo_end sc mI mL mZ (xs (i + 1))).2.1 (mo_end sc mI mL mZ (xs (i + 1))).2.2.1 (mo_end sc mI mL mZ (xs (i + 1))).2.2.2.1 (mo_end sc mI mL mZ (xs (i + 1))).2.2.2.2) H9 := hB9
  have hMD : va_D (fun q => s.heap.size ≤ q) (mw G.2 ob ad (mo_end sc mI mL mZ (xs (i + 1))).2.1 (mo_end sc mI mL mZ (xs (i + 1))).2.2.1 (mo_end sc mI mL mZ (xs (i + 1))).2.2.2.1 (mo_end sc mI mL mZ (xs (i + 1))).2.2.2.2) := sy_Da hMD rfl
  have hap : ∀ q, sys_A G g (x_end cx (xs (i + 1))).2 q → ¬ sy_A (mw G.2 ob ad (mo_end sc mI mL mZ (xs (i + 1))).2.1 (mo_end sc mI mL mZ (xs (i + 1))).2.2.1 (mo_end sc mI mL mZ (xs (i + 1))).2.2.2.1 (mo_end sc mI mL mZ (xs (i + 1))).2.2.2.2) q := fun q h h2 => hap q h (sy_Aa (ws := mw G.2 ob ad sc mI mL mZ) (ws' := mw G.2 ob ad (mo_end sc mI mL mZ (xs (i + 1))).2.1 (mo_end sc mI mL mZ (xs (i + 1))).2.2.1 (mo_end sc mI mL mZ (xs (i + 1))).2.2.2.1 (mo_end sc mI mL mZ (xs (i + 1))).2.2.2.2) rfl h2)
  generalize H9 = H at hSP hM hS ⊢
  have hE := e_end hR (xs (i + 1))
  have hE9 := hE.1
  have hR := hE.2
  have hq4 : (mo_end sc mI mL mZ (xs (i + 1))).2.1 4 ≤ sc 4 + 1 := q_endBatch
  refine lv_icmp_eq (tgt := 1384) hx hb d_Law_law_1042 (by decide) (fun c_1 => ?_) (fun c_1 => ?_)
  · have c_1 := bI_i c_1
    rw [← hf9.1, ← hf9.2]
    exact kk g (x_end cx (xs (i + 1))).2 (mo_end sc mI mL mZ (xs (i + 1))).2.1 (mo_end sc mI mL mZ (xs (i + 1))).2.2.1 (mo_end sc mI mL mZ (xs (i + 1))).2.2.2.1 (mo_end sc mI mL mZ (xs (i + 1))).2.2.2.2 _ _ rfl ⟨hSP, hSD, hM, hMD, hap, hS, hR, by omega⟩
  · have c_1 : ¬ ((x_end cx (xs (i + 1))).1) = ((mo_end sc mI mL mZ (xs (i + 1))).1) := fun h9 => c_1 (by rw [h9])
    exact absurd hE9 c_1
set_option maxHeartbeats 4000000 in
set_option maxRecDepth 100000 in
theorem law_c15 {p : Program} {l : Launch} {e : Env} {s : State} {m : MethodId} {below : List Frame} {meth : Method} {c : Code} {b L : Nat} {xs : Nat → Int32} (hL : L ≤ 5632) (C0 : lw_At p s m meth c b L xs) {G : sy_G} (hK : sy_K G s) {g : Nat → Nat} {cx : cs} {ob : Nat} {ad : Nat → Nat} {sc : Nat → Nat} {mI : Nat → Nat → Int32} {mL : Nat → Nat → Int64} {mZ : Nat → Nat → Bool} {H : Heap} {locs : List Loc} {i : Nat} (hi : i + 11 ≤ L) {Q : State → Prop} (hLW : LW s G g cx ob ad sc mI mL mZ i H locs) {ls : Array Slot} (hl : lv_has ls 4 [(3, .int (nI i)), (2, .ref ob), (1, .ref (g 0)), (0, .ref b)])
    (kk : ∀ (g9 : Nat → Nat) (cx9 : cs) (sc9 : Nat → Nat) (mI9 : Nat → Nat → Int32) (mL9 : Nat → Nat → Int64) (mZ9 : Nat → Nat → Bool) (H9 : Heap) (locs9 : List Loc), g9 0 = g 0 → LW s G g9 cx9 ob ad sc9 mI9 mL9 mZ9 (i + 1) H9 locs9 → W p l e room_1 s m #[Value.ref b] below meth c H9 locs9 (fc cx9) (fs cx9) Q (F0 m 1384 ls [])) :
    W p l e room_1 s m #[Value.ref b] below meth c H locs (fc cx) (fs cx) Q (F0 m 1047 ls []) := by
  obtain ⟨hx, hb, hr, hml, hown0, hts, hX, hbl, hlocks, hgv⟩ := C0
  obtain ⟨hSP, hSD, hM, hMD, hap, hS, hR, h4n⟩ := hLW
  have hown : s.vm.findClass R_Law = some m.cls := hown0
  have ht : ∀ wd ∈ sy_T, wd.before #[Value.ref b] s = true := fun wd h => hts wd (List.mem_filter.mp h).1
  have hbA : ¬ (fun q : Nat => s.heap.size ≤ q) b := Nat.not_le.mpr hbl
  have e0 := hR.s0
  have e1 := hR.s1
  have e2 := hR.s2
  have e3 := hR.s3
  have e4 := hR.s4
  have b0 := hR.b0
  have b1 := hR.b1
  have b2 := hR.b2
  have b3 := hR.b3
  have hcb : cs_b cx := cs_bR hR (by omega)
  obtain ⟨hd, hs, hn, hc, hm, hb4⟩ := id hcb
  have hrc : fc cx + 0 ≤ room_1.cells := by show _ ≤ 600000; unfold fc; omega
  have hrs : fs cx + 0 ≤ room_1.slots := by show _ ≤ 7302250; unfold fs; omega
  refine lv_aload_n hx hb d_Law_law_1047 rfl (lv_at hl 2 rfl) ?_
  refine lv_aload_n hx hb d_Law_law_1048 rfl (lv_at hl 3 rfl) ?_
  refine lv_iload_n hx hb d_Law_law_1049 rfl (lv_at hl 0 rfl) ?_
  refine lv_iconst (v := 1) hx hb d_Law_law_1050 (by decide) ?_
  refine lv_iadd hx hb d_Law_law_1051 ?_
  refine sy_ti (y := nI (i + 1)) (nI_add i 1) ?_
  refine va_sld hx hb hX hbl hbA hS (vp_in_nI (n := i + 1) (by omega) (by omega)) d_Law_law_1052 ?_
  refine sy_ti (y := xs (i + 1)) (by rw [nI_clamp (by omega)]) ?_
  refine lv_aload_n hx hb d_Law_law_1053 rfl (lv_at hl 3 rfl) ?_
  refine lv_iload_n hx hb d_Law_law_1054 rfl (lv_at hl 0 rfl) ?_
  refine lv_iconst (v := 2) hx hb d_Law_law_1055 (by decide) ?_
  refine lv_iadd hx hb d_Law_law_1056 ?_
  refine sy_ti (y := nI (i + 2)) (nI_add i 2) ?_
  refine va_sld hx hb hX hbl hbA hS (vp_in_nI (n := i + 2) (by omega) (by omega)) d_Law_law_1057 ?_
  refine sy_ti (y := xs (i + 2)) (by rw [nI_clamp (by omega)]) ?_
  refine lv_i2l (v := (xs (i + 2)).toInt64) hx hb d_Law_law_1058 rfl ?_
  refine lv_bipush (v := 32) hx hb d_Law_law_1059 (by decide) ?_
  refine lv_lshl (v := ((xs (i + 2)).toInt64) <<< ((32 : Int32).toInt64 &&& 63)) hx hb d_Law_law_1061 rfl ?_
  refine lv_aload_n hx hb d_Law_law_1062 rfl (lv_at hl 3 rfl) ?_
  refine lv_iload_n hx hb d_Law_law_1063 rfl (lv_at hl 0 rfl) ?_
  refine lv_iconst (v := 3) hx hb d_Law_law_1064 (by decide) ?_
  refine lv_iadd hx hb d_Law_law_1065 ?_
  refine sy_ti (y := nI (i + 3)) (nI_add i 3) ?_
  refine va_sld hx hb hX hbl hbA hS (vp_in_nI (n := i + 3) (by omega) (by omega)) d_Law_law_1066 ?_
  refine sy_ti (y := xs (i + 3)) (by rw [nI_clamp (by omega)]) ?_
  refine lv_i2l (v := (xs (i + 3)).toInt64) hx hb d_Law_law_1067 rfl ?_
  refine lv_ldc2 (v := 4294967295) hx hb hown (ht _ m_726) d_Law_law_1068 ?_
  refine lv_land hx hb d_Law_law_1071 ?_
  refine lv_lor hx hb d_Law_law_1072 ?_
  refine va_calli (sy_runV (As := [.int (xs (i + 1)), .long ((((xs (i + 2)).toInt64) <<< ((32 : Int32).toInt64 &&& 63)) ||| (((xs (i + 3)).toInt64) &&& 4294967295))]) (rest := []) (b := g 0) ⟨hx, hb, hml, hown, ht⟩ cl_Law_87 (s_retain l G g cx hcb (xs (i + 1)) ((((xs (i + 2)).toInt64) <<< ((32 : Int32).toInt64 &&& 63)) ||| (((xs (i + 3)).toInt64) &&& 4294967295))) hK ⟨hSP, ss_anyD hSD⟩ (va_recv hK.1 (sys_x hSP) (ci := 0) (q0 := 0) rfl rfl) rfl nm_DeviceSets_retain rfl rfl ⟨Nat.le_of_ble_eq_true rfl, Nat.le_of_ble_eq_true rfl⟩ hl.1 (Nat.le_of_ble_eq_true rfl) d_Law_law_1073 ⟨hrc, hrs⟩) hS (fun q _ h => ss_in hSD h) (fun q h => ss_in hSD h) (fun r9 u9 t9 H9 locs ht9 hvm9 hw9 hB9 hz9 hk9 hS => ?_)
  obtain ⟨hr9, hu9⟩ := hw9
  subst hr9
  subst hu9
  rw [ht9] at hB9
  have hM : va_P G.1 classes (mw G.2 ob ad sc mI mL mZ) H9 := lx_M hM hap hk9
  have hxa : ∀ i9 : sid, (sy_cell G.2 g (x_retain cx (xs (i + 1)) ((((xs (i + 2)).toInt64) <<< ((32 : Int32).toInt64 &&& 63)) ||| (((xs (i + 3)).toInt64) &&& 4294967295))).2 i9).map Prod.fst = (sy_cell G.2 g cx i9).map Prod.fst := fun i9 => xa_retain i9
  have hSP : sys_P G g (x_retain cx (xs (i + 1)) ((((xs (i + 2)).toInt64) <<< ((32 : Int32).toInt64 &&& 63)) ||| (((xs (i + 3)).toInt64) &&& 4294967295))).2 H9 := hB9
  have hSD : sys_D (fun q => s.heap.size ≤ q) G g (x_retain cx (xs (i + 1)) ((((xs (i + 2)).toInt64) <<< ((32 : Int32).toInt64 &&& 63)) ||| (((xs (i + 3)).toInt64) &&& 4294967295))).2 := ss_setD hSD hxa
  have hap : ∀ q, sys_A G g (x_retain cx (xs (i + 1)) ((((xs (i + 2)).toInt64) <<< ((32 : Int32).toInt64 &&& 63)) ||| (((xs (i + 3)).toInt64) &&& 4294967295))).2 q → ¬ sy_A (mw G.2 ob ad sc mI mL mZ) q := fun q h => hap q (ss_Aa hxa h)
  generalize H9 = H at hSP hM hS ⊢
  have hf9 : fc (x_retain cx (xs (i + 1)) ((((xs (i + 2)).toInt64) <<< ((32 : Int32).toInt64 &&& 63)) ||| (((xs (i + 3)).toInt64) &&& 4294967295))).2 = fc cx ∧ fs (x_retain cx (xs (i + 1)) ((((xs (i + 2)).toInt64) <<< ((32 : Int32).toInt64 &&& 63)) ||| (((xs (i + 3)).toInt64) &&& 4294967295))).2 = fs cx := f_retain
  refine lv_aload_n hx hb d_Law_law_1076 rfl (lv_at hl 1 rfl) ?_
  refine lv_aload_n hx hb d_Law_law_1077 rfl (lv_at hl 3 rfl) ?_
  refine lv_iload_n hx hb d_Law_law_1078 rfl (lv_at hl 0 rfl) ?_
  refine lv_iconst (v := 1) hx hb d_Law_law_1079 (by decide) ?_
  refine lv_iadd hx hb d_Law_law_1080 ?_
  refine sy_ti (y := nI (i + 1)) (nI_add i 1) ?_
  refine va_sld hx hb hX hbl hbA hS (vp_in_nI (n := i + 1) (by omega) (by omega)) d_Law_law_1081 ?_
  refine sy_ti (y := xs (i + 1)) (by rw [nI_clamp (by omega)]) ?_
  refine lv_aload_n hx hb d_Law_law_1082 rfl (lv_at hl 3 rfl) ?_
  refine lv_iload_n hx hb d_Law_law_1083 rfl (lv_at hl 0 rfl) ?_
  refine lv_iconst (v := 2) hx hb d_Law_law_1084 (by decide) ?_
  refine lv_iadd hx hb d_Law_law_1085 ?_
  refine sy_ti (y := nI (i + 2)) (nI_add i 2) ?_
  refine va_sld hx hb hX hbl hbA hS (vp_in_nI (n := i + 2) (by omega) (by omega)) d_Law_law_1086 ?_
  refine sy_ti (y := xs (i + 2)) (by rw [nI_clamp (by omega)]) ?_
  refine lv_i2l (v := (xs (i + 2)).toInt64) hx hb d_Law_law_1087 rfl ?_
  refine lv_bipush (v := 32) hx hb d_Law_law_1088 (by decide) ?_
  refine lv_lshl (v := ((xs (i + 2)).toInt64) <<< ((32 : Int32).toInt64 &&& 63)) hx hb d_Law_law_1090 rfl ?_
  refine lv_aload_n hx hb d_Law_law_1091 rfl (lv_at hl 3 rfl) ?_
  refine lv_iload_n hx hb d_Law_law_1092 rfl (lv_at hl 0 rfl) ?_
  refine lv_iconst (v := 3) hx hb d_Law_law_1093 (by decide) ?_
  refine lv_iadd hx hb d_Law_law_1094 ?_
  refine sy_ti (y := nI (i + 3)) (nI_add i 3) ?_
  refine va_sld hx hb hX hbl hbA hS (vp_in_nI (n := i + 3) (by omega) (by omega)) d_Law_law_1095 ?_
  refine sy_ti (y := xs (i + 3)) (by rw [nI_clamp (by omega)]) ?_
  refine lv_i2l (v := (xs (i + 3)).toInt64) hx hb d_Law_law_1096 rfl ?_
  refine lv_ldc2 (v := 4294967295) hx hb hown (ht _ m_726) d_Law_law_1097 ?_
  refine lv_land hx hb d_Law_law_1100 ?_
  refine lv_lor hx hb d_Law_law_1101 ?_
  refine va_calli (sy_runV (As := [.int (xs (i + 1)), .long ((((xs (i + 2)).toInt64) <<< ((32 : Int32).toInt64 &&& 63)) ||| (((xs (i + 3)).toInt64) &&& 4294967295))]) (rest := [.int ((x_retain cx (xs (i + 1)) ((((xs (i + 2)).toInt64) <<< ((32 : Int32).toInt64 &&& 63)) ||| (((xs (i + 3)).toInt64) &&& 4294967295))).1)]) (b := ob) ⟨hx, hb, hml, hown, ht⟩ cl_Law_91 (c_Model_retain l G ob ad sc mI mL mZ (xs (i + 1)) ((((xs (i + 2)).toInt64) <<< ((32 : Int32).toInt64 &&& 63)) ||| (((xs (i + 3)).toInt64) &&& 4294967295)) (by omega) (by omega)) hK ⟨hM, sy_any hMD⟩ (va_recv hK.1 hM (ci := 7) (q0 := 0) rfl rfl) rfl nm_Model_retain rfl rfl ⟨Nat.le_of_ble_eq_true rfl, Nat.le_of_ble_eq_true rfl⟩ hl.1 (Nat.le_of_ble_eq_true rfl) d_Law_law_1102 ⟨hrc, hrs⟩) hS (fun q _ h => sy_in hMD h) (fun q h => sy_in hMD h) (fun r9 u9 t9 H9 locs ht9 hvm9 hw9 hB9 hz9 hk9 hS => ?_)
  obtain ⟨hr9, hu9⟩ := hw9
  subst hr9
  subst hu9
  rw [ht9] at hB9
  have hSP : sys_P G g (x_retain cx (xs (i + 1)) ((((xs (i + 2)).toInt64) <<< ((32 : Int32).toInt64 &&& 63)) ||| (((xs (i + 3)).toInt64) &&& 4294967295))).2 H9 := lx_S hSP hap hk9
  have hM : va_P G.1 classes (mw G.2 ob ad (mo_retain sc mI mL mZ (xs (i + 1)) ((((xs (i + 2)).toInt64) <<< ((32 : Int32).toInt64 &&& 63)) ||| (((xs (i + 3)).toInt64) &&& 4294967295))).2.1 (mo_retain sc mI mL mZ (xs (i + 1)) ((((xs (i + 2)).toInt64) <<< ((32 : Int32).toInt64 &&& 63)) ||| (((xs (i + 3)).toInt64) &&& 4294967295))).2.2.1 (mo_retain sc mI mL mZ (xs (i + 1)) ((((xs (i + 2)).toInt64) <<< ((32 : Int32).toInt64 &&& 63)) ||| (((xs (i + 3)).toInt64) &&& 4294967295))).2.2.2.1 (mo_retain sc mI mL mZ (xs (i + 1)) ((((xs (i + 2)).toInt64) <<< ((32 : Int32).toInt64 &&& 63)) ||| (((xs (i + 3)).toInt64) &&& 4294967295))).2.2.2.2) H9 := hB9
  have hMD : va_D (fun q => s.heap.size ≤ q) (mw G.2 ob ad (mo_retain sc mI mL mZ (xs (i + 1)) ((((xs (i + 2)).toInt64) <<< ((32 : Int32).toInt64 &&& 63)) ||| (((xs (i + 3)).toInt64) &&& 4294967295))).2.1 (mo_retain sc mI mL mZ (xs (i + 1)) ((((xs (i + 2)).toInt64) <<< ((32 : Int32).toInt64 &&& 63)) ||| (((xs (i + 3)).toInt64) &&& 4294967295))).2.2.1 (mo_retain sc mI mL mZ (xs (i + 1)) ((((xs (i + 2)).toInt64) <<< ((32 : Int32).toInt64 &&& 63)) ||| (((xs (i + 3)).toInt64) &&& 4294967295))).2.2.2.1 (mo_retain sc mI mL mZ (xs (i + 1)) ((((xs (i + 2)).toInt64) <<< ((32 : Int32).toInt64 &&& 63)) ||| (((xs (i + 3)).toInt64) &&& 4294967295))).2.2.2.2) := sy_Da hMD rfl
  have hap : ∀ q, sys_A G g (x_retain cx (xs (i + 1)) ((((xs (i + 2)).toInt64) <<< ((32 : Int32).toInt64 &&& 63)) ||| (((xs (i + 3)).toInt64) &&& 4294967295))).2 q → ¬ sy_A (mw G.2 ob ad (mo_retain sc mI mL mZ (xs (i + 1)) ((((xs (i + 2)).toInt64) <<< ((32 : Int32).toInt64 &&& 63)) ||| (((xs (i + 3)).toInt64) &&& 4294967295))).2.1 (mo_retain sc mI mL mZ (xs (i + 1)) ((((xs (i + 2)).toInt64) <<< ((32 : Int32).toInt64 &&& 63)) ||| (((xs (i + 3)).toInt64) &&& 4294967295))).2.2.1 (mo_retain sc mI mL mZ (xs (i + 1)) ((((xs (i + 2)).toInt64) <<< ((32 : Int32).toInt64 &&& 63)) ||| (((xs (i + 3)).toInt64) &&& 4294967295))).2.2.2.1 (mo_retain sc mI mL mZ (xs (i + 1)) ((((xs (i + 2)).toInt64) <<< ((32 : Int32).toInt64 &&& 63)) ||| (((xs (i + 3)).toInt64) &&& 4294967295))).2.2.2.2) q := fun q h h2 => hap q h (sy_Aa (ws := mw G.2 ob ad sc mI mL mZ) (ws' := mw G.2 ob ad (mo_retain sc mI mL mZ (xs (i + 1)) ((((xs (i + 2)).toInt64) <<< ((32 : Int32).toInt64 &&& 63)) ||| (((xs (i + 3)).toInt64) &&& 4294967295))).2.1 (mo_retain sc mI mL mZ (xs (i + 1)) ((((xs (i + 2)).toInt64) <<< ((32 : Int32).toInt64 &&& 63)) ||| (((xs (i + 3)).toInt64) &&& 4294967295))).2.2.1 (mo_retain sc mI mL mZ (xs (i + 1)) ((((xs (i + 2)).toInt64) <<< ((32 : Int32).toInt64 &&& 63)) ||| (((xs (i + 3)).toInt64) &&& 4294967295))).2.2.2.1 (mo_retain sc mI mL mZ (xs (i + 1)) ((((xs (i + 2)).toInt64) <<< ((32 : Int32).toInt64 &&& 63)) ||| (((xs (i + 3)).toInt64) &&& 4294967295))).2.2.2.2) rfl h2)
  generalize H9 = H at hSP hM hS ⊢
  have hE := e_retain hR (xs (i + 1)) ((((xs (i + 2)).toInt64) <<< ((32 : Int32).toInt64 &&& 63)) ||| (((xs (i + 3)).toInt64) &&& 4294967295))
  have hE9 := hE.1
  have hR := hE.2
  have hq4 : (mo_retain sc mI mL mZ (xs (i + 1)) ((((xs (i + 2)).toInt64) <<< ((32 : Int32).toInt64 &&& 63)) ||| (((xs (i + 3)).toInt64) &&& 4294967295))).2.1 4 ≤ sc 4 + 1 := q_retain
  refine lv_icmp_eq (tgt := 1384) hx hb d_Law_law_1105 (by decide) (fun c_1 => ?_) (fun c_1 => ?_)
  · rw [← hf9.1, ← hf9.2]
    exact kk g (x_retain cx (xs (i + 1)) ((((xs (i + 2)).toInt64) <<< ((32 : Int32).toInt64 &&& 63)) ||| (((xs (i + 3)).toInt64) &&& 4294967295))).2 (mo_retain sc mI mL mZ (xs (i + 1)) ((((xs (i + 2)).toInt64) <<< ((32 : Int32).toInt64 &&& 63)) ||| (((xs (i + 3)).toInt64) &&& 4294967295))).2.1 (mo_retain sc mI mL mZ (xs (i + 1)) ((((xs (i + 2)).toInt64) <<< ((32 : Int32).toInt64 &&& 63)) ||| (((xs (i + 3)).toInt64) &&& 4294967295))).2.2.1 (mo_retain sc mI mL mZ (xs (i + 1)) ((((xs (i + 2)).toInt64) <<< ((32 : Int32).toInt64 &&& 63)) ||| (((xs (i + 3)).toInt64) &&& 4294967295))).2.2.2.1 (mo_retain sc mI mL mZ (xs (i + 1)) ((((xs (i + 2)).toInt64) <<< ((32 : Int32).toInt64 &&& 63)) ||| (((xs (i + 3)).toInt64) &&& 4294967295))).2.2.2.2 _ _ rfl ⟨hSP, hSD, hM, hMD, hap, hS, hR, by omega⟩
  · exact absurd hE9 c_1
set_option maxHeartbeats 4000000 in
set_option maxRecDepth 100000 in
theorem law_c16 {p : Program} {l : Launch} {e : Env} {s : State} {m : MethodId} {below : List Frame} {meth : Method} {c : Code} {b L : Nat} {xs : Nat → Int32} (hL : L ≤ 5632) (C0 : lw_At p s m meth c b L xs) {G : sy_G} (hK : sy_K G s) {g : Nat → Nat} {cx : cs} {ob : Nat} {ad : Nat → Nat} {sc : Nat → Nat} {mI : Nat → Nat → Int32} {mL : Nat → Nat → Int64} {mZ : Nat → Nat → Bool} {H : Heap} {locs : List Loc} {i : Nat} (hi : i + 11 ≤ L) {Q : State → Prop} (hLW : LW s G g cx ob ad sc mI mL mZ i H locs) {ls : Array Slot} (hl : lv_has ls 4 [(3, .int (nI i)), (2, .ref ob), (1, .ref (g 0)), (0, .ref b)])
    (kk : ∀ (g9 : Nat → Nat) (cx9 : cs) (sc9 : Nat → Nat) (mI9 : Nat → Nat → Int32) (mL9 : Nat → Nat → Int64) (mZ9 : Nat → Nat → Bool) (H9 : Heap) (locs9 : List Loc), g9 0 = g 0 → LW s G g9 cx9 ob ad sc9 mI9 mL9 mZ9 (i + 1) H9 locs9 → W p l e room_1 s m #[Value.ref b] below meth c H9 locs9 (fc cx9) (fs cx9) Q (F0 m 1384 ls [])) :
    W p l e room_1 s m #[Value.ref b] below meth c H locs (fc cx) (fs cx) Q (F0 m 1110 ls []) := by
  obtain ⟨hx, hb, hr, hml, hown0, hts, hX, hbl, hlocks, hgv⟩ := C0
  obtain ⟨hSP, hSD, hM, hMD, hap, hS, hR, h4n⟩ := hLW
  have hown : s.vm.findClass R_Law = some m.cls := hown0
  have ht : ∀ wd ∈ sy_T, wd.before #[Value.ref b] s = true := fun wd h => hts wd (List.mem_filter.mp h).1
  have hbA : ¬ (fun q : Nat => s.heap.size ≤ q) b := Nat.not_le.mpr hbl
  have e0 := hR.s0
  have e1 := hR.s1
  have e2 := hR.s2
  have e3 := hR.s3
  have e4 := hR.s4
  have b0 := hR.b0
  have b1 := hR.b1
  have b2 := hR.b2
  have b3 := hR.b3
  have hcb : cs_b cx := cs_bR hR (by omega)
  obtain ⟨hd, hs, hn, hc, hm, hb4⟩ := id hcb
  have hrc : fc cx + 0 ≤ room_1.cells := by show _ ≤ 600000; unfold fc; omega
  have hrs : fs cx + 0 ≤ room_1.slots := by show _ ≤ 7302250; unfold fs; omega
  refine lv_aload_n hx hb d_Law_law_1110 rfl (lv_at hl 2 rfl) ?_
  refine lv_aload_n hx hb d_Law_law_1111 rfl (lv_at hl 3 rfl) ?_
  refine lv_iload_n hx hb d_Law_law_1112 rfl (lv_at hl 0 rfl) ?_
  refine lv_iconst (v := 1) hx hb d_Law_law_1113 (by decide) ?_
  refine lv_iadd hx hb d_Law_law_1114 ?_
  refine sy_ti (y := nI (i + 1)) (nI_add i 1) ?_
  refine va_sld hx hb hX hbl hbA hS (vp_in_nI (n := i + 1) (by omega) (by omega)) d_Law_law_1115 ?_
  refine sy_ti (y := xs (i + 1)) (by rw [nI_clamp (by omega)]) ?_
  refine lv_aload_n hx hb d_Law_law_1116 rfl (lv_at hl 3 rfl) ?_
  refine lv_iload_n hx hb d_Law_law_1117 rfl (lv_at hl 0 rfl) ?_
  refine lv_iconst (v := 2) hx hb d_Law_law_1118 (by decide) ?_
  refine lv_iadd hx hb d_Law_law_1119 ?_
  refine sy_ti (y := nI (i + 2)) (nI_add i 2) ?_
  refine va_sld hx hb hX hbl hbA hS (vp_in_nI (n := i + 2) (by omega) (by omega)) d_Law_law_1120 ?_
  refine sy_ti (y := xs (i + 2)) (by rw [nI_clamp (by omega)]) ?_
  refine vp_callSl (va_Run.run (sy_runV (As := [.int (xs (i + 1)), .int (xs (i + 2))]) (rest := []) (b := g 0) ⟨hx, hb, hml, hown, ht⟩ cl_Law_92 (c_DeviceSets_kept l G g cx.nd cx.ns cx.nb cx.nT cx.fI cx.fL cx.nC cx.gI cx.gL cx.dl cx.df cx.dm cx.dk cx.so cx.sh cx.sv (xs (i + 1)) (xs (i + 2)) hd hs hn hc (fun d h => (hm d h).2)) hK ⟨sys_x hSP, sys_t hSP, sys_c hSP, sys_d hSP, sys_s hSP⟩ (va_recv hK.1 (sys_x hSP) (ci := 0) (q0 := 0) rfl rfl) rfl nm_DeviceSets_kept rfl rfl ⟨Nat.le_of_ble_eq_true rfl, Nat.le_of_ble_eq_true rfl⟩ hl.1 (Nat.le_of_ble_eq_true rfl) d_Law_law_1121 ⟨hrc, hrs⟩)) (fun r9 hr9 => ?_)
  subst hr9
  refine lv_aload_n hx hb d_Law_law_1124 rfl (lv_at hl 1 rfl) ?_
  refine lv_aload_n hx hb d_Law_law_1125 rfl (lv_at hl 3 rfl) ?_
  refine lv_iload_n hx hb d_Law_law_1126 rfl (lv_at hl 0 rfl) ?_
  refine lv_iconst (v := 1) hx hb d_Law_law_1127 (by decide) ?_
  refine lv_iadd hx hb d_Law_law_1128 ?_
  refine sy_ti (y := nI (i + 1)) (nI_add i 1) ?_
  refine va_sld hx hb hX hbl hbA hS (vp_in_nI (n := i + 1) (by omega) (by omega)) d_Law_law_1129 ?_
  refine sy_ti (y := xs (i + 1)) (by rw [nI_clamp (by omega)]) ?_
  refine lv_aload_n hx hb d_Law_law_1130 rfl (lv_at hl 3 rfl) ?_
  refine lv_iload_n hx hb d_Law_law_1131 rfl (lv_at hl 0 rfl) ?_
  refine lv_iconst (v := 2) hx hb d_Law_law_1132 (by decide) ?_
  refine lv_iadd hx hb d_Law_law_1133 ?_
  refine sy_ti (y := nI (i + 2)) (nI_add i 2) ?_
  refine va_sld hx hb hX hbl hbA hS (vp_in_nI (n := i + 2) (by omega) (by omega)) d_Law_law_1134 ?_
  refine sy_ti (y := xs (i + 2)) (by rw [nI_clamp (by omega)]) ?_
  refine vp_callSl (va_Run.run (sy_runV (As := [.int (xs (i + 1)), .int (xs (i + 2))]) (rest := [.long (xm_kept cx.ns cx.nT cx.fI cx.fL cx.sh (xs (i + 1)) (xs (i + 2)))]) (b := ob) ⟨hx, hb, hml, hown, ht⟩ cl_Law_96 (c_Model_kept l G ob ad sc mI mL mZ (xs (i + 1)) (xs (i + 2)) (by omega) (by omega)) hK hM (va_recv hK.1 hM (ci := 7) (q0 := 0) rfl rfl) rfl nm_Model_kept rfl rfl ⟨Nat.le_of_ble_eq_true rfl, Nat.le_of_ble_eq_true rfl⟩ hl.1 (Nat.le_of_ble_eq_true rfl) d_Law_law_1135 ⟨hrc, hrs⟩)) (fun r9 hr9 => ?_)
  subst hr9
  have hE9 := e_kept hR (xs (i + 1)) (xs (i + 2))
  refine sy_lc_eq (tgt := 1384) hx hb d_Law_law_1138 d_Law_law_1139 (by decide) (fun c_1 => ?_) (fun c_1 => ?_)
  · exact kk g cx sc mI mL mZ _ _ rfl ⟨hSP, hSD, hM, hMD, hap, hS, hR, by omega⟩
  · exact absurd hE9 c_1
set_option maxHeartbeats 4000000 in
set_option maxRecDepth 100000 in
theorem law_c17 {p : Program} {l : Launch} {e : Env} {s : State} {m : MethodId} {below : List Frame} {meth : Method} {c : Code} {b L : Nat} {xs : Nat → Int32} (hL : L ≤ 5632) (C0 : lw_At p s m meth c b L xs) {G : sy_G} (hK : sy_K G s) {g : Nat → Nat} {cx : cs} {ob : Nat} {ad : Nat → Nat} {sc : Nat → Nat} {mI : Nat → Nat → Int32} {mL : Nat → Nat → Int64} {mZ : Nat → Nat → Bool} {H : Heap} {locs : List Loc} {i : Nat} (hi : i + 11 ≤ L) {Q : State → Prop} (hLW : LW s G g cx ob ad sc mI mL mZ i H locs) {ls : Array Slot} (hl : lv_has ls 4 [(3, .int (nI i)), (2, .ref ob), (1, .ref (g 0)), (0, .ref b)])
    (kk : ∀ (g9 : Nat → Nat) (cx9 : cs) (sc9 : Nat → Nat) (mI9 : Nat → Nat → Int32) (mL9 : Nat → Nat → Int64) (mZ9 : Nat → Nat → Bool) (H9 : Heap) (locs9 : List Loc), g9 0 = g 0 → LW s G g9 cx9 ob ad sc9 mI9 mL9 mZ9 (i + 1) H9 locs9 → W p l e room_1 s m #[Value.ref b] below meth c H9 locs9 (fc cx9) (fs cx9) Q (F0 m 1384 ls [])) :
    W p l e room_1 s m #[Value.ref b] below meth c H locs (fc cx) (fs cx) Q (F0 m 1144 ls []) := by
  obtain ⟨hx, hb, hr, hml, hown0, hts, hX, hbl, hlocks, hgv⟩ := C0
  obtain ⟨hSP, hSD, hM, hMD, hap, hS, hR, h4n⟩ := hLW
  have hown : s.vm.findClass R_Law = some m.cls := hown0
  have ht : ∀ wd ∈ sy_T, wd.before #[Value.ref b] s = true := fun wd h => hts wd (List.mem_filter.mp h).1
  have hbA : ¬ (fun q : Nat => s.heap.size ≤ q) b := Nat.not_le.mpr hbl
  have e0 := hR.s0
  have e1 := hR.s1
  have e2 := hR.s2
  have e3 := hR.s3
  have e4 := hR.s4
  have b0 := hR.b0
  have b1 := hR.b1
  have b2 := hR.b2
  have b3 := hR.b3
  have hcb : cs_b cx := cs_bR hR (by omega)
  obtain ⟨hd, hs, hn, hc, hm, hb4⟩ := id hcb
  have hrc : fc cx + 0 ≤ room_1.cells := by show _ ≤ 600000; unfold fc; omega
  have hrs : fs cx + 0 ≤ room_1.slots := by show _ ≤ 7302250; unfold fs; omega
  refine lv_aload_n hx hb d_Law_law_1144 rfl (lv_at hl 2 rfl) ?_
  refine lv_aload_n hx hb d_Law_law_1145 rfl (lv_at hl 3 rfl) ?_
  refine lv_iload_n hx hb d_Law_law_1146 rfl (lv_at hl 0 rfl) ?_
  refine lv_iconst (v := 1) hx hb d_Law_law_1147 (by decide) ?_
  refine lv_iadd hx hb d_Law_law_1148 ?_
  refine sy_ti (y := nI (i + 1)) (nI_add i 1) ?_
  refine va_sld hx hb hX hbl hbA hS (vp_in_nI (n := i + 1) (by omega) (by omega)) d_Law_law_1149 ?_
  refine sy_ti (y := xs (i + 1)) (by rw [nI_clamp (by omega)]) ?_
  refine lv_aload_n hx hb d_Law_law_1150 rfl (lv_at hl 3 rfl) ?_
  refine lv_iload_n hx hb d_Law_law_1151 rfl (lv_at hl 0 rfl) ?_
  refine lv_iconst (v := 2) hx hb d_Law_law_1152 (by decide) ?_
  refine lv_iadd hx hb d_Law_law_1153 ?_
  refine sy_ti (y := nI (i + 2)) (nI_add i 2) ?_
  refine va_sld hx hb hX hbl hbA hS (vp_in_nI (n := i + 2) (by omega) (by omega)) d_Law_law_1154 ?_
  refine sy_ti (y := xs (i + 2)) (by rw [nI_clamp (by omega)]) ?_
  refine lv_i2l (v := (xs (i + 2)).toInt64) hx hb d_Law_law_1155 rfl ?_
  refine lv_bipush (v := 32) hx hb d_Law_law_1156 (by decide) ?_
  refine lv_lshl (v := ((xs (i + 2)).toInt64) <<< ((32 : Int32).toInt64 &&& 63)) hx hb d_Law_law_1158 rfl ?_
  refine lv_aload_n hx hb d_Law_law_1159 rfl (lv_at hl 3 rfl) ?_
  refine lv_iload_n hx hb d_Law_law_1160 rfl (lv_at hl 0 rfl) ?_
  refine lv_iconst (v := 3) hx hb d_Law_law_1161 (by decide) ?_
  refine lv_iadd hx hb d_Law_law_1162 ?_
  refine sy_ti (y := nI (i + 3)) (nI_add i 3) ?_
  refine va_sld hx hb hX hbl hbA hS (vp_in_nI (n := i + 3) (by omega) (by omega)) d_Law_law_1163 ?_
  refine sy_ti (y := xs (i + 3)) (by rw [nI_clamp (by omega)]) ?_
  refine lv_i2l (v := (xs (i + 3)).toInt64) hx hb d_Law_law_1164 rfl ?_
  refine lv_ldc2 (v := 4294967295) hx hb hown (ht _ m_726) d_Law_law_1165 ?_
  refine lv_land hx hb d_Law_law_1168 ?_
  refine lv_lor hx hb d_Law_law_1169 ?_
  refine lv_aload_n hx hb d_Law_law_1170 rfl (lv_at hl 3 rfl) ?_
  refine lv_iload_n hx hb d_Law_law_1171 rfl (lv_at hl 0 rfl) ?_
  refine lv_iconst (v := 4) hx hb d_Law_law_1172 (by decide) ?_
  refine lv_iadd hx hb d_Law_law_1173 ?_
  refine sy_ti (y := nI (i + 4)) (nI_add i 4) ?_
  refine va_sld hx hb hX hbl hbA hS (vp_in_nI (n := i + 4) (by omega) (by omega)) d_Law_law_1174 ?_
  refine sy_ti (y := xs (i + 4)) (by rw [nI_clamp (by omega)]) ?_
  refine lv_i2l (v := (xs (i + 4)).toInt64) hx hb d_Law_law_1175 rfl ?_
  refine lv_bipush (v := 32) hx hb d_Law_law_1176 (by decide) ?_
  refine lv_lshl (v := ((xs (i + 4)).toInt64) <<< ((32 : Int32).toInt64 &&& 63)) hx hb d_Law_law_1178 rfl ?_
  refine lv_aload_n hx hb d_Law_law_1179 rfl (lv_at hl 3 rfl) ?_
  refine lv_iload_n hx hb d_Law_law_1180 rfl (lv_at hl 0 rfl) ?_
  refine lv_iconst (v := 5) hx hb d_Law_law_1181 (by decide) ?_
  refine lv_iadd hx hb d_Law_law_1182 ?_
  refine sy_ti (y := nI (i + 5)) (nI_add i 5) ?_
  refine va_sld hx hb hX hbl hbA hS (vp_in_nI (n := i + 5) (by omega) (by omega)) d_Law_law_1183 ?_
  refine sy_ti (y := xs (i + 5)) (by rw [nI_clamp (by omega)]) ?_
  refine lv_i2l (v := (xs (i + 5)).toInt64) hx hb d_Law_law_1184 rfl ?_
  refine lv_ldc2 (v := 4294967295) hx hb hown (ht _ m_726) d_Law_law_1185 ?_
  refine lv_land hx hb d_Law_law_1188 ?_
  refine lv_lor hx hb d_Law_law_1189 ?_
  refine va_calli (sy_runV (As := [.int (xs (i + 1)), .long ((((xs (i + 2)).toInt64) <<< ((32 : Int32).toInt64 &&& 63)) ||| (((xs (i + 3)).toInt64) &&& 4294967295)), .long ((((xs (i + 4)).toInt64) <<< ((32 : Int32).toInt64 &&& 63)) ||| (((xs (i + 5)).toInt64) &&& 4294967295))]) (rest := []) (b := g 0) ⟨hx, hb, hml, hown, ht⟩ cl_Law_97 (s_mark l G g cx hcb (xs (i + 1)) ((((xs (i + 2)).toInt64) <<< ((32 : Int32).toInt64 &&& 63)) ||| (((xs (i + 3)).toInt64) &&& 4294967295)) ((((xs (i + 4)).toInt64) <<< ((32 : Int32).toInt64 &&& 63)) ||| (((xs (i + 5)).toInt64) &&& 4294967295))) hK ⟨hSP, ss_anyD hSD⟩ (va_recv hK.1 (sys_x hSP) (ci := 0) (q0 := 0) rfl rfl) rfl nm_DeviceSets_mark rfl rfl ⟨Nat.le_of_ble_eq_true rfl, Nat.le_of_ble_eq_true rfl⟩ hl.1 (Nat.le_of_ble_eq_true rfl) d_Law_law_1190 ⟨hrc, hrs⟩) hS (fun q _ h => ss_in hSD h) (fun q h => ss_in hSD h) (fun r9 u9 t9 H9 locs ht9 hvm9 hw9 hB9 hz9 hk9 hS => ?_)
  obtain ⟨hr9, hu9⟩ := hw9
  subst hr9
  subst hu9
  rw [ht9] at hB9
  have hM : va_P G.1 classes (mw G.2 ob ad sc mI mL mZ) H9 := lx_M hM hap hk9
  have hxa : ∀ i9 : sid, (sy_cell G.2 g (x_mark cx (xs (i + 1)) ((((xs (i + 2)).toInt64) <<< ((32 : Int32).toInt64 &&& 63)) ||| (((xs (i + 3)).toInt64) &&& 4294967295)) ((((xs (i + 4)).toInt64) <<< ((32 : Int32).toInt64 &&& 63)) ||| (((xs (i + 5)).toInt64) &&& 4294967295))).2 i9).map Prod.fst = (sy_cell G.2 g cx i9).map Prod.fst := fun i9 => xa_mark i9
  have hSP : sys_P G g (x_mark cx (xs (i + 1)) ((((xs (i + 2)).toInt64) <<< ((32 : Int32).toInt64 &&& 63)) ||| (((xs (i + 3)).toInt64) &&& 4294967295)) ((((xs (i + 4)).toInt64) <<< ((32 : Int32).toInt64 &&& 63)) ||| (((xs (i + 5)).toInt64) &&& 4294967295))).2 H9 := hB9
  have hSD : sys_D (fun q => s.heap.size ≤ q) G g (x_mark cx (xs (i + 1)) ((((xs (i + 2)).toInt64) <<< ((32 : Int32).toInt64 &&& 63)) ||| (((xs (i + 3)).toInt64) &&& 4294967295)) ((((xs (i + 4)).toInt64) <<< ((32 : Int32).toInt64 &&& 63)) ||| (((xs (i + 5)).toInt64) &&& 4294967295))).2 := ss_setD hSD hxa
  have hap : ∀ q, sys_A G g (x_mark cx (xs (i + 1)) ((((xs (i + 2)).toInt64) <<< ((32 : Int32).toInt64 &&& 63)) ||| (((xs (i + 3)).toInt64) &&& 4294967295)) ((((xs (i + 4)).toInt64) <<< ((32 : Int32).toInt64 &&& 63)) ||| (((xs (i + 5)).toInt64) &&& 4294967295))).2 q → ¬ sy_A (mw G.2 ob ad sc mI mL mZ) q := fun q h => hap q (ss_Aa hxa h)
  generalize H9 = H at hSP hM hS ⊢
  have hf9 : fc (x_mark cx (xs (i + 1)) ((((xs (i + 2)).toInt64) <<< ((32 : Int32).toInt64 &&& 63)) ||| (((xs (i + 3)).toInt64) &&& 4294967295)) ((((xs (i + 4)).toInt64) <<< ((32 : Int32).toInt64 &&& 63)) ||| (((xs (i + 5)).toInt64) &&& 4294967295))).2 = fc cx ∧ fs (x_mark cx (xs (i + 1)) ((((xs (i + 2)).toInt64) <<< ((32 : Int32).toInt64 &&& 63)) ||| (((xs (i + 3)).toInt64) &&& 4294967295)) ((((xs (i + 4)).toInt64) <<< ((32 : Int32).toInt64 &&& 63)) ||| (((xs (i + 5)).toInt64) &&& 4294967295))).2 = fs cx := f_mark
  refine lv_aload_n hx hb d_Law_law_1193 rfl (lv_at hl 1 rfl) ?_
  refine lv_aload_n hx hb d_Law_law_1194 rfl (lv_at hl 3 rfl) ?_
  refine lv_iload_n hx hb d_Law_law_1195 rfl (lv_at hl 0 rfl) ?_
  refine lv_iconst (v := 1) hx hb d_Law_law_1196 (by decide) ?_
  refine lv_iadd hx hb d_Law_law_1197 ?_
  refine sy_ti (y := nI (i + 1)) (nI_add i 1) ?_
  refine va_sld hx hb hX hbl hbA hS (vp_in_nI (n := i + 1) (by omega) (by omega)) d_Law_law_1198 ?_
  refine sy_ti (y := xs (i + 1)) (by rw [nI_clamp (by omega)]) ?_
  refine lv_aload_n hx hb d_Law_law_1199 rfl (lv_at hl 3 rfl) ?_
  refine lv_iload_n hx hb d_Law_law_1200 rfl (lv_at hl 0 rfl) ?_
  refine lv_iconst (v := 2) hx hb d_Law_law_1201 (by decide) ?_
  refine lv_iadd hx hb d_Law_law_1202 ?_
  refine sy_ti (y := nI (i + 2)) (nI_add i 2) ?_
  refine va_sld hx hb hX hbl hbA hS (vp_in_nI (n := i + 2) (by omega) (by omega)) d_Law_law_1203 ?_
  refine sy_ti (y := xs (i + 2)) (by rw [nI_clamp (by omega)]) ?_
  refine lv_i2l (v := (xs (i + 2)).toInt64) hx hb d_Law_law_1204 rfl ?_
  refine lv_bipush (v := 32) hx hb d_Law_law_1205 (by decide) ?_
  refine lv_lshl (v := ((xs (i + 2)).toInt64) <<< ((32 : Int32).toInt64 &&& 63)) hx hb d_Law_law_1207 rfl ?_
  refine lv_aload_n hx hb d_Law_law_1208 rfl (lv_at hl 3 rfl) ?_
  refine lv_iload_n hx hb d_Law_law_1209 rfl (lv_at hl 0 rfl) ?_
  refine lv_iconst (v := 3) hx hb d_Law_law_1210 (by decide) ?_
  refine lv_iadd hx hb d_Law_law_1211 ?_
  refine sy_ti (y := nI (i + 3)) (nI_add i 3) ?_
  refine va_sld hx hb hX hbl hbA hS (vp_in_nI (n := i + 3) (by omega) (by omega)) d_Law_law_1212 ?_
  refine sy_ti (y := xs (i + 3)) (by rw [nI_clamp (by omega)]) ?_
  refine lv_i2l (v := (xs (i + 3)).toInt64) hx hb d_Law_law_1213 rfl ?_
  refine lv_ldc2 (v := 4294967295) hx hb hown (ht _ m_726) d_Law_law_1214 ?_
  refine lv_land hx hb d_Law_law_1217 ?_
  refine lv_lor hx hb d_Law_law_1218 ?_
  refine lv_aload_n hx hb d_Law_law_1219 rfl (lv_at hl 3 rfl) ?_
  refine lv_iload_n hx hb d_Law_law_1220 rfl (lv_at hl 0 rfl) ?_
  refine lv_iconst (v := 4) hx hb d_Law_law_1221 (by decide) ?_
  refine lv_iadd hx hb d_Law_law_1222 ?_
  refine sy_ti (y := nI (i + 4)) (nI_add i 4) ?_
  refine va_sld hx hb hX hbl hbA hS (vp_in_nI (n := i + 4) (by omega) (by omega)) d_Law_law_1223 ?_
  refine sy_ti (y := xs (i + 4)) (by rw [nI_clamp (by omega)]) ?_
  refine lv_i2l (v := (xs (i + 4)).toInt64) hx hb d_Law_law_1224 rfl ?_
  refine lv_bipush (v := 32) hx hb d_Law_law_1225 (by decide) ?_
  refine lv_lshl (v := ((xs (i + 4)).toInt64) <<< ((32 : Int32).toInt64 &&& 63)) hx hb d_Law_law_1227 rfl ?_
  refine lv_aload_n hx hb d_Law_law_1228 rfl (lv_at hl 3 rfl) ?_
  refine lv_iload_n hx hb d_Law_law_1229 rfl (lv_at hl 0 rfl) ?_
  refine lv_iconst (v := 5) hx hb d_Law_law_1230 (by decide) ?_
  refine lv_iadd hx hb d_Law_law_1231 ?_
  refine sy_ti (y := nI (i + 5)) (nI_add i 5) ?_
  refine va_sld hx hb hX hbl hbA hS (vp_in_nI (n := i + 5) (by omega) (by omega)) d_Law_law_1232 ?_
  refine sy_ti (y := xs (i + 5)) (by rw [nI_clamp (by omega)]) ?_
  refine lv_i2l (v := (xs (i + 5)).toInt64) hx hb d_Law_law_1233 rfl ?_
  refine lv_ldc2 (v := 4294967295) hx hb hown (ht _ m_726) d_Law_law_1234 ?_
  refine lv_land hx hb d_Law_law_1237 ?_
  refine lv_lor hx hb d_Law_law_1238 ?_
  refine va_calli (sy_runV (As := [.int (xs (i + 1)), .long ((((xs (i + 2)).toInt64) <<< ((32 : Int32).toInt64 &&& 63)) ||| (((xs (i + 3)).toInt64) &&& 4294967295)), .long ((((xs (i + 4)).toInt64) <<< ((32 : Int32).toInt64 &&& 63)) ||| (((xs (i + 5)).toInt64) &&& 4294967295))]) (rest := [.int (bI ((x_mark cx (xs (i + 1)) ((((xs (i + 2)).toInt64) <<< ((32 : Int32).toInt64 &&& 63)) ||| (((xs (i + 3)).toInt64) &&& 4294967295)) ((((xs (i + 4)).toInt64) <<< ((32 : Int32).toInt64 &&& 63)) ||| (((xs (i + 5)).toInt64) &&& 4294967295))).1))]) (b := ob) ⟨hx, hb, hml, hown, ht⟩ cl_Law_101 (c_Model_mark l G ob ad sc mI mL mZ (xs (i + 1)) ((((xs (i + 2)).toInt64) <<< ((32 : Int32).toInt64 &&& 63)) ||| (((xs (i + 3)).toInt64) &&& 4294967295)) ((((xs (i + 4)).toInt64) <<< ((32 : Int32).toInt64 &&& 63)) ||| (((xs (i + 5)).toInt64) &&& 4294967295)) (by omega) (e_hm hR)) hK ⟨hM, sy_any hMD⟩ (va_recv hK.1 hM (ci := 7) (q0 := 0) rfl rfl) rfl nm_Model_mark rfl rfl ⟨Nat.le_of_ble_eq_true rfl, Nat.le_of_ble_eq_true rfl⟩ hl.1 (Nat.le_of_ble_eq_true rfl) d_Law_law_1239 ⟨hrc, hrs⟩) hS (fun q _ h => sy_in hMD h) (fun q h => sy_in hMD h) (fun r9 u9 t9 H9 locs ht9 hvm9 hw9 hB9 hz9 hk9 hS => ?_)
  obtain ⟨hr9, hu9⟩ := hw9
  subst hr9
  subst hu9
  rw [ht9] at hB9
  have hSP : sys_P G g (x_mark cx (xs (i + 1)) ((((xs (i + 2)).toInt64) <<< ((32 : Int32).toInt64 &&& 63)) ||| (((xs (i + 3)).toInt64) &&& 4294967295)) ((((xs (i + 4)).toInt64) <<< ((32 : Int32).toInt64 &&& 63)) ||| (((xs (i + 5)).toInt64) &&& 4294967295))).2 H9 := lx_S hSP hap hk9
  have hM : va_P G.1 classes (mw G.2 ob ad (mo_mark sc mI mL mZ (xs (i + 1)) ((((xs (i + 2)).toInt64) <<< ((32 : Int32).toInt64 &&& 63)) ||| (((xs (i + 3)).toInt64) &&& 4294967295)) ((((xs (i + 4)).toInt64) <<< ((32 : Int32).toInt64 &&& 63)) ||| (((xs (i + 5)).toInt64) &&& 4294967295))).2.1 (mo_mark sc mI mL mZ (xs (i + 1)) ((((xs (i + 2)).toInt64) <<< ((32 : Int32).toInt64 &&& 63)) ||| (((xs (i + 3)).toInt64) &&& 4294967295)) ((((xs (i + 4)).toInt64) <<< ((32 : Int32).toInt64 &&& 63)) ||| (((xs (i + 5)).toInt64) &&& 4294967295))).2.2.1 (mo_mark sc mI mL mZ (xs (i + 1)) ((((xs (i + 2)).toInt64) <<< ((32 : Int32).toInt64 &&& 63)) ||| (((xs (i + 3)).toInt64) &&& 4294967295)) ((((xs (i + 4)).toInt64) <<< ((32 : Int32).toInt64 &&& 63)) ||| (((xs (i + 5)).toInt64) &&& 4294967295))).2.2.2.1 (mo_mark sc mI mL mZ (xs (i + 1)) ((((xs (i + 2)).toInt64) <<< ((32 : Int32).toInt64 &&& 63)) ||| (((xs (i + 3)).toInt64) &&& 4294967295)) ((((xs (i + 4)).toInt64) <<< ((32 : Int32).toInt64 &&& 63)) ||| (((xs (i + 5)).toInt64) &&& 4294967295))).2.2.2.2) H9 := hB9
  have hMD : va_D (fun q => s.heap.size ≤ q) (mw G.2 ob ad (mo_mark sc mI mL mZ (xs (i + 1)) ((((xs (i + 2)).toInt64) <<< ((32 : Int32).toInt64 &&& 63)) ||| (((xs (i + 3)).toInt64) &&& 4294967295)) ((((xs (i + 4)).toInt64) <<< ((32 : Int32).toInt64 &&& 63)) ||| (((xs (i + 5)).toInt64) &&& 4294967295))).2.1 (mo_mark sc mI mL mZ (xs (i + 1)) ((((xs (i + 2)).toInt64) <<< ((32 : Int32).toInt64 &&& 63)) ||| (((xs (i + 3)).toInt64) &&& 4294967295)) ((((xs (i + 4)).toInt64) <<< ((32 : Int32).toInt64 &&& 63)) ||| (((xs (i + 5)).toInt64) &&& 4294967295))).2.2.1 (mo_mark sc mI mL mZ (xs (i + 1)) ((((xs (i + 2)).toInt64) <<< ((32 : Int32).toInt64 &&& 63)) ||| (((xs (i + 3)).toInt64) &&& 4294967295)) ((((xs (i + 4)).toInt64) <<< ((32 : Int32).toInt64 &&& 63)) ||| (((xs (i + 5)).toInt64) &&& 4294967295))).2.2.2.1 (mo_mark sc mI mL mZ (xs (i + 1)) ((((xs (i + 2)).toInt64) <<< ((32 : Int32).toInt64 &&& 63)) ||| (((xs (i + 3)).toInt64) &&& 4294967295)) ((((xs (i + 4)).toInt64) <<< ((32 : Int32).toInt64 &&& 63)) ||| (((xs (i + 5)).toInt64) &&& 4294967295))).2.2.2.2) := sy_Da hMD rfl
  have hap : ∀ q, sys_A G g (x_mark cx (xs (i + 1)) ((((xs (i + 2)).toInt64) <<< ((32 : Int32).toInt64 &&& 63)) ||| (((xs (i + 3)).toInt64) &&& 4294967295)) ((((xs (i + 4)).toInt64) <<< ((32 : Int32).toInt64 &&& 63)) ||| (((xs (i + 5)).toInt64) &&& 4294967295))).2 q → ¬ sy_A (mw G.2 ob ad (mo_mark sc mI mL mZ (xs (i + 1)) ((((xs (i + 2)).toInt64) <<< ((32 : Int32).toInt64 &&& 63)) ||| (((xs (i + 3)).toInt64) &&& 4294967295)) ((((xs (i + 4)).toInt64) <<< ((32 : Int32).toInt64 &&& 63)) ||| (((xs (i + 5)).toInt64) &&& 4294967295))).2.1 (mo_mark sc mI mL mZ (xs (i + 1)) ((((xs (i + 2)).toInt64) <<< ((32 : Int32).toInt64 &&& 63)) ||| (((xs (i + 3)).toInt64) &&& 4294967295)) ((((xs (i + 4)).toInt64) <<< ((32 : Int32).toInt64 &&& 63)) ||| (((xs (i + 5)).toInt64) &&& 4294967295))).2.2.1 (mo_mark sc mI mL mZ (xs (i + 1)) ((((xs (i + 2)).toInt64) <<< ((32 : Int32).toInt64 &&& 63)) ||| (((xs (i + 3)).toInt64) &&& 4294967295)) ((((xs (i + 4)).toInt64) <<< ((32 : Int32).toInt64 &&& 63)) ||| (((xs (i + 5)).toInt64) &&& 4294967295))).2.2.2.1 (mo_mark sc mI mL mZ (xs (i + 1)) ((((xs (i + 2)).toInt64) <<< ((32 : Int32).toInt64 &&& 63)) ||| (((xs (i + 3)).toInt64) &&& 4294967295)) ((((xs (i + 4)).toInt64) <<< ((32 : Int32).toInt64 &&& 63)) ||| (((xs (i + 5)).toInt64) &&& 4294967295))).2.2.2.2) q := fun q h h2 => hap q h (sy_Aa (ws := mw G.2 ob ad sc mI mL mZ) (ws' := mw G.2 ob ad (mo_mark sc mI mL mZ (xs (i + 1)) ((((xs (i + 2)).toInt64) <<< ((32 : Int32).toInt64 &&& 63)) ||| (((xs (i + 3)).toInt64) &&& 4294967295)) ((((xs (i + 4)).toInt64) <<< ((32 : Int32).toInt64 &&& 63)) ||| (((xs (i + 5)).toInt64) &&& 4294967295))).2.1 (mo_mark sc mI mL mZ (xs (i + 1)) ((((xs (i + 2)).toInt64) <<< ((32 : Int32).toInt64 &&& 63)) ||| (((xs (i + 3)).toInt64) &&& 4294967295)) ((((xs (i + 4)).toInt64) <<< ((32 : Int32).toInt64 &&& 63)) ||| (((xs (i + 5)).toInt64) &&& 4294967295))).2.2.1 (mo_mark sc mI mL mZ (xs (i + 1)) ((((xs (i + 2)).toInt64) <<< ((32 : Int32).toInt64 &&& 63)) ||| (((xs (i + 3)).toInt64) &&& 4294967295)) ((((xs (i + 4)).toInt64) <<< ((32 : Int32).toInt64 &&& 63)) ||| (((xs (i + 5)).toInt64) &&& 4294967295))).2.2.2.1 (mo_mark sc mI mL mZ (xs (i + 1)) ((((xs (i + 2)).toInt64) <<< ((32 : Int32).toInt64 &&& 63)) ||| (((xs (i + 3)).toInt64) &&& 4294967295)) ((((xs (i + 4)).toInt64) <<< ((32 : Int32).toInt64 &&& 63)) ||| (((xs (i + 5)).toInt64) &&& 4294967295))).2.2.2.2) rfl h2)
  generalize H9 = H at hSP hM hS ⊢
  have hE := e_mark hR (xs (i + 1)) ((((xs (i + 2)).toInt64) <<< ((32 : Int32).toInt64 &&& 63)) ||| (((xs (i + 3)).toInt64) &&& 4294967295)) ((((xs (i + 4)).toInt64) <<< ((32 : Int32).toInt64 &&& 63)) ||| (((xs (i + 5)).toInt64) &&& 4294967295))
  have hE9 := hE.1
  have hR := hE.2
  have hq4 : (mo_mark sc mI mL mZ (xs (i + 1)) ((((xs (i + 2)).toInt64) <<< ((32 : Int32).toInt64 &&& 63)) ||| (((xs (i + 3)).toInt64) &&& 4294967295)) ((((xs (i + 4)).toInt64) <<< ((32 : Int32).toInt64 &&& 63)) ||| (((xs (i + 5)).toInt64) &&& 4294967295))).2.1 4 ≤ sc 4 + 1 := q_mark
  refine lv_icmp_eq (tgt := 1384) hx hb d_Law_law_1242 (by decide) (fun c_1 => ?_) (fun c_1 => ?_)
  · have c_1 := bI_i c_1
    rw [← hf9.1, ← hf9.2]
    exact kk g (x_mark cx (xs (i + 1)) ((((xs (i + 2)).toInt64) <<< ((32 : Int32).toInt64 &&& 63)) ||| (((xs (i + 3)).toInt64) &&& 4294967295)) ((((xs (i + 4)).toInt64) <<< ((32 : Int32).toInt64 &&& 63)) ||| (((xs (i + 5)).toInt64) &&& 4294967295))).2 (mo_mark sc mI mL mZ (xs (i + 1)) ((((xs (i + 2)).toInt64) <<< ((32 : Int32).toInt64 &&& 63)) ||| (((xs (i + 3)).toInt64) &&& 4294967295)) ((((xs (i + 4)).toInt64) <<< ((32 : Int32).toInt64 &&& 63)) ||| (((xs (i + 5)).toInt64) &&& 4294967295))).2.1 (mo_mark sc mI mL mZ (xs (i + 1)) ((((xs (i + 2)).toInt64) <<< ((32 : Int32).toInt64 &&& 63)) ||| (((xs (i + 3)).toInt64) &&& 4294967295)) ((((xs (i + 4)).toInt64) <<< ((32 : Int32).toInt64 &&& 63)) ||| (((xs (i + 5)).toInt64) &&& 4294967295))).2.2.1 (mo_mark sc mI mL mZ (xs (i + 1)) ((((xs (i + 2)).toInt64) <<< ((32 : Int32).toInt64 &&& 63)) ||| (((xs (i + 3)).toInt64) &&& 4294967295)) ((((xs (i + 4)).toInt64) <<< ((32 : Int32).toInt64 &&& 63)) ||| (((xs (i + 5)).toInt64) &&& 4294967295))).2.2.2.1 (mo_mark sc mI mL mZ (xs (i + 1)) ((((xs (i + 2)).toInt64) <<< ((32 : Int32).toInt64 &&& 63)) ||| (((xs (i + 3)).toInt64) &&& 4294967295)) ((((xs (i + 4)).toInt64) <<< ((32 : Int32).toInt64 &&& 63)) ||| (((xs (i + 5)).toInt64) &&& 4294967295))).2.2.2.2 _ _ rfl ⟨hSP, hSD, hM, hMD, hap, hS, hR, by omega⟩
  · have c_1 : ¬ ((x_mark cx (xs (i + 1)) ((((xs (i + 2)).toInt64) <<< ((32 : Int32).toInt64 &&& 63)) ||| (((xs (i + 3)).toInt64) &&& 4294967295)) ((((xs (i + 4)).toInt64) <<< ((32 : Int32).toInt64 &&& 63)) ||| (((xs (i + 5)).toInt64) &&& 4294967295))).1) = ((mo_mark sc mI mL mZ (xs (i + 1)) ((((xs (i + 2)).toInt64) <<< ((32 : Int32).toInt64 &&& 63)) ||| (((xs (i + 3)).toInt64) &&& 4294967295)) ((((xs (i + 4)).toInt64) <<< ((32 : Int32).toInt64 &&& 63)) ||| (((xs (i + 5)).toInt64) &&& 4294967295))).1) := fun h9 => c_1 (by rw [h9])
    exact absurd hE9 c_1
set_option maxHeartbeats 4000000 in
set_option maxRecDepth 100000 in
theorem law_c18 {p : Program} {l : Launch} {e : Env} {s : State} {m : MethodId} {below : List Frame} {meth : Method} {c : Code} {b L : Nat} {xs : Nat → Int32} (hL : L ≤ 5632) (C0 : lw_At p s m meth c b L xs) {G : sy_G} (hK : sy_K G s) {g : Nat → Nat} {cx : cs} {ob : Nat} {ad : Nat → Nat} {sc : Nat → Nat} {mI : Nat → Nat → Int32} {mL : Nat → Nat → Int64} {mZ : Nat → Nat → Bool} {H : Heap} {locs : List Loc} {i : Nat} (hi : i + 11 ≤ L) {Q : State → Prop} (hLW : LW s G g cx ob ad sc mI mL mZ i H locs) {ls : Array Slot} (hl : lv_has ls 4 [(3, .int (nI i)), (2, .ref ob), (1, .ref (g 0)), (0, .ref b)])
    (kk : ∀ (g9 : Nat → Nat) (cx9 : cs) (sc9 : Nat → Nat) (mI9 : Nat → Nat → Int32) (mL9 : Nat → Nat → Int64) (mZ9 : Nat → Nat → Bool) (H9 : Heap) (locs9 : List Loc), g9 0 = g 0 → LW s G g9 cx9 ob ad sc9 mI9 mL9 mZ9 (i + 1) H9 locs9 → W p l e room_1 s m #[Value.ref b] below meth c H9 locs9 (fc cx9) (fs cx9) Q (F0 m 1384 ls [])) :
    W p l e room_1 s m #[Value.ref b] below meth c H locs (fc cx) (fs cx) Q (F0 m 1247 ls []) := by
  obtain ⟨hx, hb, hr, hml, hown0, hts, hX, hbl, hlocks, hgv⟩ := C0
  obtain ⟨hSP, hSD, hM, hMD, hap, hS, hR, h4n⟩ := hLW
  have hown : s.vm.findClass R_Law = some m.cls := hown0
  have ht : ∀ wd ∈ sy_T, wd.before #[Value.ref b] s = true := fun wd h => hts wd (List.mem_filter.mp h).1
  have hbA : ¬ (fun q : Nat => s.heap.size ≤ q) b := Nat.not_le.mpr hbl
  have e0 := hR.s0
  have e1 := hR.s1
  have e2 := hR.s2
  have e3 := hR.s3
  have e4 := hR.s4
  have b0 := hR.b0
  have b1 := hR.b1
  have b2 := hR.b2
  have b3 := hR.b3
  have hcb : cs_b cx := cs_bR hR (by omega)
  obtain ⟨hd, hs, hn, hc, hm, hb4⟩ := id hcb
  have hrc : fc cx + 0 ≤ room_1.cells := by show _ ≤ 600000; unfold fc; omega
  have hrs : fs cx + 0 ≤ room_1.slots := by show _ ≤ 7302250; unfold fs; omega
  refine lv_aload_n hx hb d_Law_law_1247 rfl (lv_at hl 2 rfl) ?_
  refine lv_aload_n hx hb d_Law_law_1248 rfl (lv_at hl 3 rfl) ?_
  refine lv_iload_n hx hb d_Law_law_1249 rfl (lv_at hl 0 rfl) ?_
  refine lv_iconst (v := 1) hx hb d_Law_law_1250 (by decide) ?_
  refine lv_iadd hx hb d_Law_law_1251 ?_
  refine sy_ti (y := nI (i + 1)) (nI_add i 1) ?_
  refine va_sld hx hb hX hbl hbA hS (vp_in_nI (n := i + 1) (by omega) (by omega)) d_Law_law_1252 ?_
  refine sy_ti (y := xs (i + 1)) (by rw [nI_clamp (by omega)]) ?_
  refine lv_aload_n hx hb d_Law_law_1253 rfl (lv_at hl 3 rfl) ?_
  refine lv_iload_n hx hb d_Law_law_1254 rfl (lv_at hl 0 rfl) ?_
  refine lv_iconst (v := 2) hx hb d_Law_law_1255 (by decide) ?_
  refine lv_iadd hx hb d_Law_law_1256 ?_
  refine sy_ti (y := nI (i + 2)) (nI_add i 2) ?_
  refine va_sld hx hb hX hbl hbA hS (vp_in_nI (n := i + 2) (by omega) (by omega)) d_Law_law_1257 ?_
  refine sy_ti (y := xs (i + 2)) (by rw [nI_clamp (by omega)]) ?_
  refine lv_i2l (v := (xs (i + 2)).toInt64) hx hb d_Law_law_1258 rfl ?_
  refine lv_bipush (v := 32) hx hb d_Law_law_1259 (by decide) ?_
  refine lv_lshl (v := ((xs (i + 2)).toInt64) <<< ((32 : Int32).toInt64 &&& 63)) hx hb d_Law_law_1261 rfl ?_
  refine lv_aload_n hx hb d_Law_law_1262 rfl (lv_at hl 3 rfl) ?_
  refine lv_iload_n hx hb d_Law_law_1263 rfl (lv_at hl 0 rfl) ?_
  refine lv_iconst (v := 3) hx hb d_Law_law_1264 (by decide) ?_
  refine lv_iadd hx hb d_Law_law_1265 ?_
  refine sy_ti (y := nI (i + 3)) (nI_add i 3) ?_
  refine va_sld hx hb hX hbl hbA hS (vp_in_nI (n := i + 3) (by omega) (by omega)) d_Law_law_1266 ?_
  refine sy_ti (y := xs (i + 3)) (by rw [nI_clamp (by omega)]) ?_
  refine lv_i2l (v := (xs (i + 3)).toInt64) hx hb d_Law_law_1267 rfl ?_
  refine lv_ldc2 (v := 4294967295) hx hb hown (ht _ m_726) d_Law_law_1268 ?_
  refine lv_land hx hb d_Law_law_1271 ?_
  refine lv_lor hx hb d_Law_law_1272 ?_
  refine lv_aload_n hx hb d_Law_law_1273 rfl (lv_at hl 3 rfl) ?_
  refine lv_iload_n hx hb d_Law_law_1274 rfl (lv_at hl 0 rfl) ?_
  refine lv_iconst (v := 4) hx hb d_Law_law_1275 (by decide) ?_
  refine lv_iadd hx hb d_Law_law_1276 ?_
  refine sy_ti (y := nI (i + 4)) (nI_add i 4) ?_
  refine va_sld hx hb hX hbl hbA hS (vp_in_nI (n := i + 4) (by omega) (by omega)) d_Law_law_1277 ?_
  refine sy_ti (y := xs (i + 4)) (by rw [nI_clamp (by omega)]) ?_
  refine vp_callSl (va_Run.run (sy_runV (As := [.int (xs (i + 1)), .long ((((xs (i + 2)).toInt64) <<< ((32 : Int32).toInt64 &&& 63)) ||| (((xs (i + 3)).toInt64) &&& 4294967295)), .int (xs (i + 4))]) (rest := []) (b := g 0) ⟨hx, hb, hml, hown, ht⟩ cl_Law_102 (c_DeviceSets_corrected l G g cx.nd cx.ns cx.nb cx.nT cx.fI cx.fL cx.nC cx.gI cx.gL cx.dl cx.df cx.dm cx.dk cx.so cx.sh cx.sv (xs (i + 1)) ((((xs (i + 2)).toInt64) <<< ((32 : Int32).toInt64 &&& 63)) ||| (((xs (i + 3)).toInt64) &&& 4294967295)) (xs (i + 4)) hd hs hn hc (fun d h => (hm d h).2)) hK ⟨sys_x hSP, sys_t hSP, sys_c hSP, sys_d hSP, sys_s hSP⟩ (va_recv hK.1 (sys_x hSP) (ci := 0) (q0 := 0) rfl rfl) rfl nm_DeviceSets_corrected rfl rfl ⟨Nat.le_of_ble_eq_true rfl, Nat.le_of_ble_eq_true rfl⟩ hl.1 (Nat.le_of_ble_eq_true rfl) d_Law_law_1278 ⟨hrc, hrs⟩)) (fun r9 hr9 => ?_)
  subst hr9
  refine lv_aload_n hx hb d_Law_law_1281 rfl (lv_at hl 1 rfl) ?_
  refine lv_aload_n hx hb d_Law_law_1282 rfl (lv_at hl 3 rfl) ?_
  refine lv_iload_n hx hb d_Law_law_1283 rfl (lv_at hl 0 rfl) ?_
  refine lv_iconst (v := 1) hx hb d_Law_law_1284 (by decide) ?_
  refine lv_iadd hx hb d_Law_law_1285 ?_
  refine sy_ti (y := nI (i + 1)) (nI_add i 1) ?_
  refine va_sld hx hb hX hbl hbA hS (vp_in_nI (n := i + 1) (by omega) (by omega)) d_Law_law_1286 ?_
  refine sy_ti (y := xs (i + 1)) (by rw [nI_clamp (by omega)]) ?_
  refine lv_aload_n hx hb d_Law_law_1287 rfl (lv_at hl 3 rfl) ?_
  refine lv_iload_n hx hb d_Law_law_1288 rfl (lv_at hl 0 rfl) ?_
  refine lv_iconst (v := 2) hx hb d_Law_law_1289 (by decide) ?_
  refine lv_iadd hx hb d_Law_law_1290 ?_
  refine sy_ti (y := nI (i + 2)) (nI_add i 2) ?_
  refine va_sld hx hb hX hbl hbA hS (vp_in_nI (n := i + 2) (by omega) (by omega)) d_Law_law_1291 ?_
  refine sy_ti (y := xs (i + 2)) (by rw [nI_clamp (by omega)]) ?_
  refine lv_i2l (v := (xs (i + 2)).toInt64) hx hb d_Law_law_1292 rfl ?_
  refine lv_bipush (v := 32) hx hb d_Law_law_1293 (by decide) ?_
  refine lv_lshl (v := ((xs (i + 2)).toInt64) <<< ((32 : Int32).toInt64 &&& 63)) hx hb d_Law_law_1295 rfl ?_
  refine lv_aload_n hx hb d_Law_law_1296 rfl (lv_at hl 3 rfl) ?_
  refine lv_iload_n hx hb d_Law_law_1297 rfl (lv_at hl 0 rfl) ?_
  refine lv_iconst (v := 3) hx hb d_Law_law_1298 (by decide) ?_
  refine lv_iadd hx hb d_Law_law_1299 ?_
  refine sy_ti (y := nI (i + 3)) (nI_add i 3) ?_
  refine va_sld hx hb hX hbl hbA hS (vp_in_nI (n := i + 3) (by omega) (by omega)) d_Law_law_1300 ?_
  refine sy_ti (y := xs (i + 3)) (by rw [nI_clamp (by omega)]) ?_
  refine lv_i2l (v := (xs (i + 3)).toInt64) hx hb d_Law_law_1301 rfl ?_
  refine lv_ldc2 (v := 4294967295) hx hb hown (ht _ m_726) d_Law_law_1302 ?_
  refine lv_land hx hb d_Law_law_1305 ?_
  refine lv_lor hx hb d_Law_law_1306 ?_
  refine lv_aload_n hx hb d_Law_law_1307 rfl (lv_at hl 3 rfl) ?_
  refine lv_iload_n hx hb d_Law_law_1308 rfl (lv_at hl 0 rfl) ?_
  refine lv_iconst (v := 4) hx hb d_Law_law_1309 (by decide) ?_
  refine lv_iadd hx hb d_Law_law_1310 ?_
  refine sy_ti (y := nI (i + 4)) (nI_add i 4) ?_
  refine va_sld hx hb hX hbl hbA hS (vp_in_nI (n := i + 4) (by omega) (by omega)) d_Law_law_1311 ?_
  refine sy_ti (y := xs (i + 4)) (by rw [nI_clamp (by omega)]) ?_
  refine vp_callSl (va_Run.run (sy_runV (As := [.int (xs (i + 1)), .long ((((xs (i + 2)).toInt64) <<< ((32 : Int32).toInt64 &&& 63)) ||| (((xs (i + 3)).toInt64) &&& 4294967295)), .int (xs (i + 4))]) (rest := [.long (xm_corr cx.nd cx.dm cx.dk (xs (i + 1)) ((((xs (i + 2)).toInt64) <<< ((32 : Int32).toInt64 &&& 63)) ||| (((xs (i + 3)).toInt64) &&& 4294967295)) (xs (i + 4)))]) (b := ob) ⟨hx, hb, hml, hown, ht⟩ cl_Law_106 (c_Model_corrected l G ob ad sc mI mL mZ (xs (i + 1)) ((((xs (i + 2)).toInt64) <<< ((32 : Int32).toInt64 &&& 63)) ||| (((xs (i + 3)).toInt64) &&& 4294967295)) (xs (i + 4)) (by omega) (e_hm hR) (fun z i j h1 h2 h3 h4 => e_ln hR h1 h2 h3 h4)) hK hM (va_recv hK.1 hM (ci := 7) (q0 := 0) rfl rfl) rfl nm_Model_corrected rfl rfl ⟨Nat.le_of_ble_eq_true rfl, Nat.le_of_ble_eq_true rfl⟩ hl.1 (Nat.le_of_ble_eq_true rfl) d_Law_law_1312 ⟨hrc, hrs⟩)) (fun r9 hr9 => ?_)
  subst hr9
  have hE9 := e_corr hR (xs (i + 1)) ((((xs (i + 2)).toInt64) <<< ((32 : Int32).toInt64 &&& 63)) ||| (((xs (i + 3)).toInt64) &&& 4294967295)) (xs (i + 4))
  refine sy_lc_eq (tgt := 1384) hx hb d_Law_law_1315 d_Law_law_1316 (by decide) (fun c_1 => ?_) (fun c_1 => ?_)
  · exact kk g cx sc mI mL mZ _ _ rfl ⟨hSP, hSD, hM, hMD, hap, hS, hR, by omega⟩
  · exact absurd hE9 c_1
set_option maxHeartbeats 4000000 in
set_option maxRecDepth 100000 in
theorem law_c19 {p : Program} {l : Launch} {e : Env} {s : State} {m : MethodId} {below : List Frame} {meth : Method} {c : Code} {b L : Nat} {xs : Nat → Int32} (hL : L ≤ 5632) (C0 : lw_At p s m meth c b L xs) {G : sy_G} (hK : sy_K G s) {g : Nat → Nat} {cx : cs} {ob : Nat} {ad : Nat → Nat} {sc : Nat → Nat} {mI : Nat → Nat → Int32} {mL : Nat → Nat → Int64} {mZ : Nat → Nat → Bool} {H : Heap} {locs : List Loc} {i : Nat} (hi : i + 11 ≤ L) {Q : State → Prop} (hLW : LW s G g cx ob ad sc mI mL mZ i H locs) {ls : Array Slot} (hl : lv_has ls 4 [(3, .int (nI i)), (2, .ref ob), (1, .ref (g 0)), (0, .ref b)])
    (kk : ∀ (g9 : Nat → Nat) (cx9 : cs) (sc9 : Nat → Nat) (mI9 : Nat → Nat → Int32) (mL9 : Nat → Nat → Int64) (mZ9 : Nat → Nat → Bool) (H9 : Heap) (locs9 : List Loc), g9 0 = g 0 → LW s G g9 cx9 ob ad sc9 mI9 mL9 mZ9 (i + 1) H9 locs9 → W p l e room_1 s m #[Value.ref b] below meth c H9 locs9 (fc cx9) (fs cx9) Q (F0 m 1384 ls [])) :
    W p l e room_1 s m #[Value.ref b] below meth c H locs (fc cx) (fs cx) Q (F0 m 1321 ls []) := by
  obtain ⟨hx, hb, hr, hml, hown0, hts, hX, hbl, hlocks, hgv⟩ := C0
  obtain ⟨hSP, hSD, hM, hMD, hap, hS, hR, h4n⟩ := hLW
  have hown : s.vm.findClass R_Law = some m.cls := hown0
  have ht : ∀ wd ∈ sy_T, wd.before #[Value.ref b] s = true := fun wd h => hts wd (List.mem_filter.mp h).1
  have hbA : ¬ (fun q : Nat => s.heap.size ≤ q) b := Nat.not_le.mpr hbl
  have e0 := hR.s0
  have e1 := hR.s1
  have e2 := hR.s2
  have e3 := hR.s3
  have e4 := hR.s4
  have b0 := hR.b0
  have b1 := hR.b1
  have b2 := hR.b2
  have b3 := hR.b3
  have hcb : cs_b cx := cs_bR hR (by omega)
  obtain ⟨hd, hs, hn, hc, hm, hb4⟩ := id hcb
  have hrc : fc cx + 0 ≤ room_1.cells := by show _ ≤ 600000; unfold fc; omega
  have hrs : fs cx + 0 ≤ room_1.slots := by show _ ≤ 7302250; unfold fs; omega
  refine lv_aload_n hx hb d_Law_law_1321 rfl (lv_at hl 2 rfl) ?_
  refine lv_aload_n hx hb d_Law_law_1322 rfl (lv_at hl 3 rfl) ?_
  refine lv_iload_n hx hb d_Law_law_1323 rfl (lv_at hl 0 rfl) ?_
  refine lv_iconst (v := 1) hx hb d_Law_law_1324 (by decide) ?_
  refine lv_iadd hx hb d_Law_law_1325 ?_
  refine sy_ti (y := nI (i + 1)) (nI_add i 1) ?_
  refine va_sld hx hb hX hbl hbA hS (vp_in_nI (n := i + 1) (by omega) (by omega)) d_Law_law_1326 ?_
  refine sy_ti (y := xs (i + 1)) (by rw [nI_clamp (by omega)]) ?_
  refine lv_i2l (v := (xs (i + 1)).toInt64) hx hb d_Law_law_1327 rfl ?_
  refine lv_bipush (v := 32) hx hb d_Law_law_1328 (by decide) ?_
  refine lv_lshl (v := ((xs (i + 1)).toInt64) <<< ((32 : Int32).toInt64 &&& 63)) hx hb d_Law_law_1330 rfl ?_
  refine lv_aload_n hx hb d_Law_law_1331 rfl (lv_at hl 3 rfl) ?_
  refine lv_iload_n hx hb d_Law_law_1332 rfl (lv_at hl 0 rfl) ?_
  refine lv_iconst (v := 2) hx hb d_Law_law_1333 (by decide) ?_
  refine lv_iadd hx hb d_Law_law_1334 ?_
  refine sy_ti (y := nI (i + 2)) (nI_add i 2) ?_
  refine va_sld hx hb hX hbl hbA hS (vp_in_nI (n := i + 2) (by omega) (by omega)) d_Law_law_1335 ?_
  refine sy_ti (y := xs (i + 2)) (by rw [nI_clamp (by omega)]) ?_
  refine lv_i2l (v := (xs (i + 2)).toInt64) hx hb d_Law_law_1336 rfl ?_
  refine lv_ldc2 (v := 4294967295) hx hb hown (ht _ m_726) d_Law_law_1337 ?_
  refine lv_land hx hb d_Law_law_1340 ?_
  refine lv_lor hx hb d_Law_law_1341 ?_
  refine lv_aload_n hx hb d_Law_law_1342 rfl (lv_at hl 3 rfl) ?_
  refine lv_iload_n hx hb d_Law_law_1343 rfl (lv_at hl 0 rfl) ?_
  refine lv_iconst (v := 3) hx hb d_Law_law_1344 (by decide) ?_
  refine lv_iadd hx hb d_Law_law_1345 ?_
  refine sy_ti (y := nI (i + 3)) (nI_add i 3) ?_
  refine va_sld hx hb hX hbl hbA hS (vp_in_nI (n := i + 3) (by omega) (by omega)) d_Law_law_1346 ?_
  refine sy_ti (y := xs (i + 3)) (by rw [nI_clamp (by omega)]) ?_
  refine va_calli (sy_runV (As := [.long ((((xs (i + 1)).toInt64) <<< ((32 : Int32).toInt64 &&& 63)) ||| (((xs (i + 2)).toInt64) &&& 4294967295)), .int (xs (i + 3))]) (rest := []) (b := g 0) ⟨hx, hb, hml, hown, ht⟩ cl_Law_107 (s_play l G g cx hcb ((((xs (i + 1)).toInt64) <<< ((32 : Int32).toInt64 &&& 63)) ||| (((xs (i + 2)).toInt64) &&& 4294967295)) (xs (i + 3))) hK ⟨hSP, ss_anyD hSD⟩ (va_recv hK.1 (sys_x hSP) (ci := 0) (q0 := 0) rfl rfl) rfl nm_DeviceSets_play rfl rfl ⟨Nat.le_of_ble_eq_true rfl, Nat.le_of_ble_eq_true rfl⟩ hl.1 (Nat.le_of_ble_eq_true rfl) d_Law_law_1347 ⟨hrc, hrs⟩) hS (fun q _ h => ss_in hSD h) (fun q h => ss_in hSD h) (fun r9 u9 t9 H9 locs ht9 hvm9 hw9 hB9 hz9 hk9 hS => ?_)
  obtain ⟨hr9, hu9⟩ := hw9
  subst hr9
  subst hu9
  rw [ht9] at hB9
  have hM : va_P G.1 classes (mw G.2 ob ad sc mI mL mZ) H9 := lx_M hM hap hk9
  have hxa : ∀ i9 : sid, (sy_cell G.2 g (x_play cx ((((xs (i + 1)).toInt64) <<< ((32 : Int32).toInt64 &&& 63)) ||| (((xs (i + 2)).toInt64) &&& 4294967295)) (xs (i + 3))).2 i9).map Prod.fst = (sy_cell G.2 g cx i9).map Prod.fst := fun i9 => xa_play i9
  have hSP : sys_P G g (x_play cx ((((xs (i + 1)).toInt64) <<< ((32 : Int32).toInt64 &&& 63)) ||| (((xs (i + 2)).toInt64) &&& 4294967295)) (xs (i + 3))).2 H9 := hB9
  have hSD : sys_D (fun q => s.heap.size ≤ q) G g (x_play cx ((((xs (i + 1)).toInt64) <<< ((32 : Int32).toInt64 &&& 63)) ||| (((xs (i + 2)).toInt64) &&& 4294967295)) (xs (i + 3))).2 := ss_setD hSD hxa
  have hap : ∀ q, sys_A G g (x_play cx ((((xs (i + 1)).toInt64) <<< ((32 : Int32).toInt64 &&& 63)) ||| (((xs (i + 2)).toInt64) &&& 4294967295)) (xs (i + 3))).2 q → ¬ sy_A (mw G.2 ob ad sc mI mL mZ) q := fun q h => hap q (ss_Aa hxa h)
  generalize H9 = H at hSP hM hS ⊢
  have hf9 : fc (x_play cx ((((xs (i + 1)).toInt64) <<< ((32 : Int32).toInt64 &&& 63)) ||| (((xs (i + 2)).toInt64) &&& 4294967295)) (xs (i + 3))).2 = fc cx ∧ fs (x_play cx ((((xs (i + 1)).toInt64) <<< ((32 : Int32).toInt64 &&& 63)) ||| (((xs (i + 2)).toInt64) &&& 4294967295)) (xs (i + 3))).2 = fs cx := f_play
  refine lv_aload_n hx hb d_Law_law_1350 rfl (lv_at hl 1 rfl) ?_
  refine lv_aload_n hx hb d_Law_law_1351 rfl (lv_at hl 3 rfl) ?_
  refine lv_iload_n hx hb d_Law_law_1352 rfl (lv_at hl 0 rfl) ?_
  refine lv_iconst (v := 1) hx hb d_Law_law_1353 (by decide) ?_
  refine lv_iadd hx hb d_Law_law_1354 ?_
  refine sy_ti (y := nI (i + 1)) (nI_add i 1) ?_
  refine va_sld hx hb hX hbl hbA hS (vp_in_nI (n := i + 1) (by omega) (by omega)) d_Law_law_1355 ?_
  refine sy_ti (y := xs (i + 1)) (by rw [nI_clamp (by omega)]) ?_
  refine lv_i2l (v := (xs (i + 1)).toInt64) hx hb d_Law_law_1356 rfl ?_
  refine lv_bipush (v := 32) hx hb d_Law_law_1357 (by decide) ?_
  refine lv_lshl (v := ((xs (i + 1)).toInt64) <<< ((32 : Int32).toInt64 &&& 63)) hx hb d_Law_law_1359 rfl ?_
  refine lv_aload_n hx hb d_Law_law_1360 rfl (lv_at hl 3 rfl) ?_
  refine lv_iload_n hx hb d_Law_law_1361 rfl (lv_at hl 0 rfl) ?_
  refine lv_iconst (v := 2) hx hb d_Law_law_1362 (by decide) ?_
  refine lv_iadd hx hb d_Law_law_1363 ?_
  refine sy_ti (y := nI (i + 2)) (nI_add i 2) ?_
  refine va_sld hx hb hX hbl hbA hS (vp_in_nI (n := i + 2) (by omega) (by omega)) d_Law_law_1364 ?_
  refine sy_ti (y := xs (i + 2)) (by rw [nI_clamp (by omega)]) ?_
  refine lv_i2l (v := (xs (i + 2)).toInt64) hx hb d_Law_law_1365 rfl ?_
  refine lv_ldc2 (v := 4294967295) hx hb hown (ht _ m_726) d_Law_law_1366 ?_
  refine lv_land hx hb d_Law_law_1369 ?_
  refine lv_lor hx hb d_Law_law_1370 ?_
  refine lv_aload_n hx hb d_Law_law_1371 rfl (lv_at hl 3 rfl) ?_
  refine lv_iload_n hx hb d_Law_law_1372 rfl (lv_at hl 0 rfl) ?_
  refine lv_iconst (v := 3) hx hb d_Law_law_1373 (by decide) ?_
  refine lv_iadd hx hb d_Law_law_1374 ?_
  refine sy_ti (y := nI (i + 3)) (nI_add i 3) ?_
  refine va_sld hx hb hX hbl hbA hS (vp_in_nI (n := i + 3) (by omega) (by omega)) d_Law_law_1375 ?_
  refine sy_ti (y := xs (i + 3)) (by rw [nI_clamp (by omega)]) ?_
  refine va_calli (sy_runV (As := [.long ((((xs (i + 1)).toInt64) <<< ((32 : Int32).toInt64 &&& 63)) ||| (((xs (i + 2)).toInt64) &&& 4294967295)), .int (xs (i + 3))]) (rest := [.int ((x_play cx ((((xs (i + 1)).toInt64) <<< ((32 : Int32).toInt64 &&& 63)) ||| (((xs (i + 2)).toInt64) &&& 4294967295)) (xs (i + 3))).1)]) (b := ob) ⟨hx, hb, hml, hown, ht⟩ cl_Law_111 (c_Model_play l G ob ad sc mI mL mZ ((((xs (i + 1)).toInt64) <<< ((32 : Int32).toInt64 &&& 63)) ||| (((xs (i + 2)).toInt64) &&& 4294967295)) (xs (i + 3)) (by omega)) hK ⟨hM, sy_any hMD⟩ (va_recv hK.1 hM (ci := 7) (q0 := 0) rfl rfl) rfl nm_Model_play rfl rfl ⟨Nat.le_of_ble_eq_true rfl, Nat.le_of_ble_eq_true rfl⟩ hl.1 (Nat.le_of_ble_eq_true rfl) d_Law_law_1376 ⟨hrc, hrs⟩) hS (fun q _ h => sy_in hMD h) (fun q h => sy_in hMD h) (fun r9 u9 t9 H9 locs ht9 hvm9 hw9 hB9 hz9 hk9 hS => ?_)
  obtain ⟨hr9, hu9⟩ := hw9
  subst hr9
  subst hu9
  rw [ht9] at hB9
  have hSP : sys_P G g (x_play cx ((((xs (i + 1)).toInt64) <<< ((32 : Int32).toInt64 &&& 63)) ||| (((xs (i + 2)).toInt64) &&& 4294967295)) (xs (i + 3))).2 H9 := lx_S hSP hap hk9
  have hM : va_P G.1 classes (mw G.2 ob ad (mo_play sc mI mL mZ ((((xs (i + 1)).toInt64) <<< ((32 : Int32).toInt64 &&& 63)) ||| (((xs (i + 2)).toInt64) &&& 4294967295)) (xs (i + 3))).2.1 (mo_play sc mI mL mZ ((((xs (i + 1)).toInt64) <<< ((32 : Int32).toInt64 &&& 63)) ||| (((xs (i + 2)).toInt64) &&& 4294967295)) (xs (i + 3))).2.2.1 (mo_play sc mI mL mZ ((((xs (i + 1)).toInt64) <<< ((32 : Int32).toInt64 &&& 63)) ||| (((xs (i + 2)).toInt64) &&& 4294967295)) (xs (i + 3))).2.2.2.1 (mo_play sc mI mL mZ ((((xs (i + 1)).toInt64) <<< ((32 : Int32).toInt64 &&& 63)) ||| (((xs (i + 2)).toInt64) &&& 4294967295)) (xs (i + 3))).2.2.2.2) H9 := hB9
  have hMD : va_D (fun q => s.heap.size ≤ q) (mw G.2 ob ad (mo_play sc mI mL mZ ((((xs (i + 1)).toInt64) <<< ((32 : Int32).toInt64 &&& 63)) ||| (((xs (i + 2)).toInt64) &&& 4294967295)) (xs (i + 3))).2.1 (mo_play sc mI mL mZ ((((xs (i + 1)).toInt64) <<< ((32 : Int32).toInt64 &&& 63)) ||| (((xs (i + 2)).toInt64) &&& 4294967295)) (xs (i + 3))).2.2.1 (mo_play sc mI mL mZ ((((xs (i + 1)).toInt64) <<< ((32 : Int32).toInt64 &&& 63)) ||| (((xs (i + 2)).toInt64) &&& 4294967295)) (xs (i + 3))).2.2.2.1 (mo_play sc mI mL mZ ((((xs (i + 1)).toInt64) <<< ((32 : Int32).toInt64 &&& 63)) ||| (((xs (i + 2)).toInt64) &&& 4294967295)) (xs (i + 3))).2.2.2.2) := sy_Da hMD rfl
  have hap : ∀ q, sys_A G g (x_play cx ((((xs (i + 1)).toInt64) <<< ((32 : Int32).toInt64 &&& 63)) ||| (((xs (i + 2)).toInt64) &&& 4294967295)) (xs (i + 3))).2 q → ¬ sy_A (mw G.2 ob ad (mo_play sc mI mL mZ ((((xs (i + 1)).toInt64) <<< ((32 : Int32).toInt64 &&& 63)) ||| (((xs (i + 2)).toInt64) &&& 4294967295)) (xs (i + 3))).2.1 (mo_play sc mI mL mZ ((((xs (i + 1)).toInt64) <<< ((32 : Int32).toInt64 &&& 63)) ||| (((xs (i + 2)).toInt64) &&& 4294967295)) (xs (i + 3))).2.2.1 (mo_play sc mI mL mZ ((((xs (i + 1)).toInt64) <<< ((32 : Int32).toInt64 &&& 63)) ||| (((xs (i + 2)).toInt64) &&& 4294967295)) (xs (i + 3))).2.2.2.1 (mo_play sc mI mL mZ ((((xs (i + 1)).toInt64) <<< ((32 : Int32).toInt64 &&& 63)) ||| (((xs (i + 2)).toInt64) &&& 4294967295)) (xs (i + 3))).2.2.2.2) q := fun q h h2 => hap q h (sy_Aa (ws := mw G.2 ob ad sc mI mL mZ) (ws' := mw G.2 ob ad (mo_play sc mI mL mZ ((((xs (i + 1)).toInt64) <<< ((32 : Int32).toInt64 &&& 63)) ||| (((xs (i + 2)).toInt64) &&& 4294967295)) (xs (i + 3))).2.1 (mo_play sc mI mL mZ ((((xs (i + 1)).toInt64) <<< ((32 : Int32).toInt64 &&& 63)) ||| (((xs (i + 2)).toInt64) &&& 4294967295)) (xs (i + 3))).2.2.1 (mo_play sc mI mL mZ ((((xs (i + 1)).toInt64) <<< ((32 : Int32).toInt64 &&& 63)) ||| (((xs (i + 2)).toInt64) &&& 4294967295)) (xs (i + 3))).2.2.2.1 (mo_play sc mI mL mZ ((((xs (i + 1)).toInt64) <<< ((32 : Int32).toInt64 &&& 63)) ||| (((xs (i + 2)).toInt64) &&& 4294967295)) (xs (i + 3))).2.2.2.2) rfl h2)
  generalize H9 = H at hSP hM hS ⊢
  have hE := e_play hR ((((xs (i + 1)).toInt64) <<< ((32 : Int32).toInt64 &&& 63)) ||| (((xs (i + 2)).toInt64) &&& 4294967295)) (xs (i + 3))
  have hE9 := hE.1
  have hR := hE.2
  have hq4 : (mo_play sc mI mL mZ ((((xs (i + 1)).toInt64) <<< ((32 : Int32).toInt64 &&& 63)) ||| (((xs (i + 2)).toInt64) &&& 4294967295)) (xs (i + 3))).2.1 4 ≤ sc 4 + 1 := q_play
  refine lv_icmp_eq (tgt := 1384) hx hb d_Law_law_1379 (by decide) (fun c_1 => ?_) (fun c_1 => ?_)
  · rw [← hf9.1, ← hf9.2]
    exact kk g (x_play cx ((((xs (i + 1)).toInt64) <<< ((32 : Int32).toInt64 &&& 63)) ||| (((xs (i + 2)).toInt64) &&& 4294967295)) (xs (i + 3))).2 (mo_play sc mI mL mZ ((((xs (i + 1)).toInt64) <<< ((32 : Int32).toInt64 &&& 63)) ||| (((xs (i + 2)).toInt64) &&& 4294967295)) (xs (i + 3))).2.1 (mo_play sc mI mL mZ ((((xs (i + 1)).toInt64) <<< ((32 : Int32).toInt64 &&& 63)) ||| (((xs (i + 2)).toInt64) &&& 4294967295)) (xs (i + 3))).2.2.1 (mo_play sc mI mL mZ ((((xs (i + 1)).toInt64) <<< ((32 : Int32).toInt64 &&& 63)) ||| (((xs (i + 2)).toInt64) &&& 4294967295)) (xs (i + 3))).2.2.2.1 (mo_play sc mI mL mZ ((((xs (i + 1)).toInt64) <<< ((32 : Int32).toInt64 &&& 63)) ||| (((xs (i + 2)).toInt64) &&& 4294967295)) (xs (i + 3))).2.2.2.2 _ _ rfl ⟨hSP, hSD, hM, hMD, hap, hS, hR, by omega⟩
  · exact absurd hE9 c_1
