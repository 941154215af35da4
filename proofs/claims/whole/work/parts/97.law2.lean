set_option maxHeartbeats 4000000 in
set_option maxRecDepth 100000 in
theorem law_c7 {p : Program} {l : Launch} {e : Env} {s : State} {m : MethodId} {below : List Frame} {meth : Method} {c : Code} {b L : Nat} {xs : Nat → Int32} (hL : L ≤ 5632) (C0 : lw_At p s m meth c b L xs) {G : sy_G} (hK : sy_K G s) {g : Nat → Nat} {cx : cs} {ob : Nat} {ad : Nat → Nat} {sc : Nat → Nat} {mI : Nat → Nat → Int32} {mL : Nat → Nat → Int64} {mZ : Nat → Nat → Bool} {H : Heap} {locs : List Loc} {i : Nat} (hi : i + 11 ≤ L) {Q : State → Prop} (hLW : LW s G g cx ob ad sc mI mL mZ i H locs) {ls : Array Slot} (hl : lv_has ls 4 [(3, .int (nI i)), (2, .ref ob), (1, .ref (g 0)), (0, .ref b)])
    (kk : ∀ (g9 : Nat → Nat) (cx9 : cs) (sc9 : Nat → Nat) (mI9 : Nat → Nat → Int32) (mL9 : Nat → Nat → Int64) (mZ9 : Nat → Nat → Bool) (H9 : Heap) (locs9 : List Loc), g9 0 = g 0 → LW s G g9 cx9 ob ad sc9 mI9 mL9 mZ9 (i + 1) H9 locs9 → W p l e room_1 s m #[Value.ref b] below meth c H9 locs9 (fc cx9) (fs cx9) Q (F0 m 1384 ls [])) :
    W p l e room_1 s m #[Value.ref b] below meth c H locs (fc cx) (fs cx) Q (F0 m 657 ls []) := by
  obtain ⟨hx, hb, hr, hml, hown0, hts, hX, hbl, hlocks, hgv⟩ := C0
  obtain ⟨hSP, hSD, hM, hMD, hap, hS, hR, h4n⟩ := hLW
  have hown : s.vm.findClass R_Law = some m.cls := hown0
  have ht : ∀ wd ∈ sy_T, wd.before #[Value.ref b] s = true := fun wd h => hts wd (List.mem_filter.mp h).1
  have hbA : ¬ (fun q : Nat => s.heap.size ≤ q) b := Nat.not_le.mpr hbl
  have e0 := hR.s0
  have e1 := hR.s1
  have e2 := hR.s2
  have e3 := hR.s3
  have e4 := hR.s4
  have b0 := hR.b0
  have b1 := hR.b1
  have b2 := hR.b2
  have b3 := hR.b3
  have hcb : cs_b cx := cs_bR hR (by omega)
  obtain ⟨hd, hs, hn, hc, hm, hb4⟩ := id hcb
  have hrc : fc cx + 0 ≤ room_1.cells := by show _ ≤ 600000; unfold fc; omega
  have hrs : fs cx + 0 ≤ room_1.slots := by show _ ≤ 7302250; unfold fs; omega
  refine lv_aload_n hx hb d_Law_law_657 rfl (lv_at hl 2 rfl) ?_
  refine lv_aload_n hx hb d_Law_law_658 rfl (lv_at hl 3 rfl) ?_
  refine lv_iload_n hx hb d_Law_law_659 rfl (lv_at hl 0 rfl) ?_
  refine lv_iconst (v := 1) hx hb d_Law_law_660 (by decide) ?_
  refine lv_iadd hx hb d_Law_law_661 ?_
  refine sy_ti (y := nI (i + 1)) (nI_add i 1) ?_
  refine va_sld hx hb hX hbl hbA hS (vp_in_nI (n := i + 1) (by omega) (by omega)) d_Law_law_662 ?_
  refine sy_ti (y := xs (i + 1)) (by rw [nI_clamp (by omega)]) ?_
  refine lv_aload_n hx hb d_Law_law_663 rfl (lv_at hl 3 rfl) ?_
  refine lv_iload_n hx hb d_Law_law_664 rfl (lv_at hl 0 rfl) ?_
  refine lv_iconst (v := 2) hx hb d_Law_law_665 (by decide) ?_
  refine lv_iadd hx hb d_Law_law_666 ?_
  refine sy_ti (y := nI (i + 2)) (nI_add i 2) ?_
  refine va_sld hx hb hX hbl hbA hS (vp_in_nI (n := i + 2) (by omega) (by omega)) d_Law_law_667 ?_
  refine sy_ti (y := xs (i + 2)) (by rw [nI_clamp (by omega)]) ?_
  refine lv_aload_n hx hb d_Law_law_668 rfl (lv_at hl 3 rfl) ?_
  refine lv_iload_n hx hb d_Law_law_669 rfl (lv_at hl 0 rfl) ?_
  refine lv_iconst (v := 3) hx hb d_Law_law_670 (by decide) ?_
  refine lv_iadd hx hb d_Law_law_671 ?_
  refine sy_ti (y := nI (i + 3)) (nI_add i 3) ?_
  refine va_sld hx hb hX hbl hbA hS (vp_in_nI (n := i + 3) (by omega) (by omega)) d_Law_law_672 ?_
  refine sy_ti (y := xs (i + 3)) (by rw [nI_clamp (by omega)]) ?_
  refine vp_callSl (va_Run.run (sy_runV (As := [.int (xs (i + 1)), .int (xs (i + 2)), .int (xs (i + 3))]) (rest := []) (b := g 0) ⟨hx, hb, hml, hown, ht⟩ cl_Law_49 (c_DeviceSets_last l G g cx.nd cx.ns cx.nb cx.nT cx.fI cx.fL cx.nC cx.gI cx.gL cx.dl cx.df cx.dm cx.dk cx.so cx.sh cx.sv (xs (i + 1)) (xs (i + 2)) (xs (i + 3)) hd hs hn hc (fun d h => (hm d h).2)) hK ⟨sys_x hSP, sys_t hSP, sys_c hSP, sys_d hSP, sys_s hSP⟩ (va_recv hK.1 (sys_x hSP) (ci := 0) (q0 := 0) rfl rfl) rfl nm_DeviceSets_last rfl rfl ⟨Nat.le_of_ble_eq_true rfl, Nat.le_of_ble_eq_true rfl⟩ hl.1 (Nat.le_of_ble_eq_true rfl) d_Law_law_673 ⟨hrc, hrs⟩)) (fun r9 hr9 => ?_)
  subst hr9
  refine lv_aload_n hx hb d_Law_law_676 rfl (lv_at hl 1 rfl) ?_
  refine lv_aload_n hx hb d_Law_law_677 rfl (lv_at hl 3 rfl) ?_
  refine lv_iload_n hx hb d_Law_law_678 rfl (lv_at hl 0 rfl) ?_
  refine lv_iconst (v := 1) hx hb d_Law_law_679 (by decide) ?_
  refine lv_iadd hx hb d_Law_law_680 ?_
  refine sy_ti (y := nI (i + 1)) (nI_add i 1) ?_
  refine va_sld hx hb hX hbl hbA hS (vp_in_nI (n := i + 1) (by omega) (by omega)) d_Law_law_681 ?_
  refine sy_ti (y := xs (i + 1)) (by rw [nI_clamp (by omega)]) ?_
  refine lv_aload_n hx hb d_Law_law_682 rfl (lv_at hl 3 rfl) ?_
  refine lv_iload_n hx hb d_Law_law_683 rfl (lv_at hl 0 rfl) ?_
  refine lv_iconst (v := 2) hx hb d_Law_law_684 (by decide) ?_
  refine lv_iadd hx hb d_Law_law_685 ?_
  refine sy_ti (y := nI (i + 2)) (nI_add i 2) ?_
  refine va_sld hx hb hX hbl hbA hS (vp_in_nI (n := i + 2) (by omega) (by omega)) d_Law_law_686 ?_
  refine sy_ti (y := xs (i + 2)) (by rw [nI_clamp (by omega)]) ?_
  refine lv_aload_n hx hb d_Law_law_687 rfl (lv_at hl 3 rfl) ?_
  refine lv_iload_n hx hb d_Law_law_688 rfl (lv_at hl 0 rfl) ?_
  refine lv_iconst (v := 3) hx hb d_Law_law_689 (by decide) ?_
  refine lv_iadd hx hb d_Law_law_690 ?_
  refine sy_ti (y := nI (i + 3)) (nI_add i 3) ?_
  refine va_sld hx hb hX hbl hbA hS (vp_in_nI (n := i + 3) (by omega) (by omega)) d_Law_law_691 ?_
  refine sy_ti (y := xs (i + 3)) (by rw [nI_clamp (by omega)]) ?_
  refine vp_callSl (va_Run.run (sy_runV (As := [.int (xs (i + 1)), .int (xs (i + 2)), .int (xs (i + 3))]) (rest := [.long (xm_last cx.ns cx.nT cx.fI cx.fL cx.sh (xs (i + 1)) (xs (i + 2)) (xs (i + 3)))]) (b := ob) ⟨hx, hb, hml, hown, ht⟩ cl_Law_53 (c_Model_last l G ob ad sc mI mL mZ (xs (i + 1)) (xs (i + 2)) (xs (i + 3)) (by omega) (by omega)) hK hM (va_recv hK.1 hM (ci := 7) (q0 := 0) rfl rfl) rfl nm_Model_last rfl rfl ⟨Nat.le_of_ble_eq_true rfl, Nat.le_of_ble_eq_true rfl⟩ hl.1 (Nat.le_of_ble_eq_true rfl) d_Law_law_692 ⟨hrc, hrs⟩)) (fun r9 hr9 => ?_)
  subst hr9
  have hE9 := e_last hR (xs (i + 1)) (xs (i + 2)) (xs (i + 3))
  refine sy_lc_eq (tgt := 1384) hx hb d_Law_law_695 d_Law_law_696 (by decide) (fun c_1 => ?_) (fun c_1 => ?_)
  · exact kk g cx sc mI mL mZ _ _ rfl ⟨hSP, hSD, hM, hMD, hap, hS, hR, by omega⟩
  · exact absurd hE9 c_1
set_option maxHeartbeats 4000000 in
set_option maxRecDepth 100000 in
theorem law_c8 {p : Program} {l : Launch} {e : Env} {s : State} {m : MethodId} {below : List Frame} {meth : Method} {c : Code} {b L : Nat} {xs : Nat → Int32} (hL : L ≤ 5632) (C0 : lw_At p s m meth c b L xs) {G : sy_G} (hK : sy_K G s) {g : Nat → Nat} {cx : cs} {ob : Nat} {ad : Nat → Nat} {sc : Nat → Nat} {mI : Nat → Nat → Int32} {mL : Nat → Nat → Int64} {mZ : Nat → Nat → Bool} {H : Heap} {locs : List Loc} {i : Nat} (hi : i + 11 ≤ L) {Q : State → Prop} (hLW : LW s G g cx ob ad sc mI mL mZ i H locs) {ls : Array Slot} (hl : lv_has ls 4 [(3, .int (nI i)), (2, .ref ob), (1, .ref (g 0)), (0, .ref b)])
    (kk : ∀ (g9 : Nat → Nat) (cx9 : cs) (sc9 : Nat → Nat) (mI9 : Nat → Nat → Int32) (mL9 : Nat → Nat → Int64) (mZ9 : Nat → Nat → Bool) (H9 : Heap) (locs9 : List Loc), g9 0 = g 0 → LW s G g9 cx9 ob ad sc9 mI9 mL9 mZ9 (i + 1) H9 locs9 → W p l e room_1 s m #[Value.ref b] below meth c H9 locs9 (fc cx9) (fs cx9) Q (F0 m 1384 ls [])) :
    W p l e room_1 s m #[Value.ref b] below meth c H locs (fc cx) (fs cx) Q (F0 m 701 ls []) := by
  obtain ⟨hx, hb, hr, hml, hown0, hts, hX, hbl, hlocks, hgv⟩ := C0
  obtain ⟨hSP, hSD, hM, hMD, hap, hS, hR, h4n⟩ := hLW
  have hown : s.vm.findClass R_Law = some m.cls := hown0
  have ht : ∀ wd ∈ sy_T, wd.before #[Value.ref b] s = true := fun wd h => hts wd (List.mem_filter.mp h).1
  have hbA : ¬ (fun q : Nat => s.heap.size ≤ q) b := Nat.not_le.mpr hbl
  have e0 := hR.s0
  have e1 := hR.s1
  have e2 := hR.s2
  have e3 := hR.s3
  have e4 := hR.s4
  have b0 := hR.b0
  have b1 := hR.b1
  have b2 := hR.b2
  have b3 := hR.b3
  have hcb : cs_b cx := cs_bR hR (by omega)
  obtain ⟨hd, hs, hn, hc, hm, hb4⟩ := id hcb
  have hrc : fc cx + 0 ≤ room_1.cells := by show _ ≤ 600000; unfold fc; omega
  have hrs : fs cx + 0 ≤ room_1.slots := by show _ ≤ 7302250; unfold fs; omega
  refine lv_aload_n hx hb d_Law_law_701 rfl (lv_at hl 2 rfl) ?_
  refine lv_aload_n hx hb d_Law_law_702 rfl (lv_at hl 3 rfl) ?_
  refine lv_iload_n hx hb d_Law_law_703 rfl (lv_at hl 0 rfl) ?_
  refine lv_iconst (v := 1) hx hb d_Law_law_704 (by decide) ?_
  refine lv_iadd hx hb d_Law_law_705 ?_
  refine sy_ti (y := nI (i + 1)) (nI_add i 1) ?_
  refine va_sld hx hb hX hbl hbA hS (vp_in_nI (n := i + 1) (by omega) (by omega)) d_Law_law_706 ?_
  refine sy_ti (y := xs (i + 1)) (by rw [nI_clamp (by omega)]) ?_
  refine lv_aload_n hx hb d_Law_law_707 rfl (lv_at hl 3 rfl) ?_
  refine lv_iload_n hx hb d_Law_law_708 rfl (lv_at hl 0 rfl) ?_
  refine lv_iconst (v := 2) hx hb d_Law_law_709 (by decide) ?_
  refine lv_iadd hx hb d_Law_law_710 ?_
  refine sy_ti (y := nI (i + 2)) (nI_add i 2) ?_
  refine va_sld hx hb hX hbl hbA hS (vp_in_nI (n := i + 2) (by omega) (by omega)) d_Law_law_711 ?_
  refine sy_ti (y := xs (i + 2)) (by rw [nI_clamp (by omega)]) ?_
  refine lv_aload_n hx hb d_Law_law_712 rfl (lv_at hl 3 rfl) ?_
  refine lv_iload_n hx hb d_Law_law_713 rfl (lv_at hl 0 rfl) ?_
  refine lv_iconst (v := 3) hx hb d_Law_law_714 (by decide) ?_
  refine lv_iadd hx hb d_Law_law_715 ?_
  refine sy_ti (y := nI (i + 3)) (nI_add i 3) ?_
  refine va_sld hx hb hX hbl hbA hS (vp_in_nI (n := i + 3) (by omega) (by omega)) d_Law_law_716 ?_
  refine sy_ti (y := xs (i + 3)) (by rw [nI_clamp (by omega)]) ?_
  refine lv_aload_n hx hb d_Law_law_717 rfl (lv_at hl 3 rfl) ?_
  refine lv_iload_n hx hb d_Law_law_718 rfl (lv_at hl 0 rfl) ?_
  refine lv_iconst (v := 4) hx hb d_Law_law_719 (by decide) ?_
  refine lv_iadd hx hb d_Law_law_720 ?_
  refine sy_ti (y := nI (i + 4)) (nI_add i 4) ?_
  refine va_sld hx hb hX hbl hbA hS (vp_in_nI (n := i + 4) (by omega) (by omega)) d_Law_law_721 ?_
  refine sy_ti (y := xs (i + 4)) (by rw [nI_clamp (by omega)]) ?_
  refine lv_i2l (v := (xs (i + 4)).toInt64) hx hb d_Law_law_722 rfl ?_
  refine lv_bipush (v := 32) hx hb d_Law_law_723 (by decide) ?_
  refine lv_lshl (v := ((xs (i + 4)).toInt64) <<< ((32 : Int32).toInt64 &&& 63)) hx hb d_Law_law_725 rfl ?_
  refine lv_aload_n hx hb d_Law_law_726 rfl (lv_at hl 3 rfl) ?_
  refine lv_iload_n hx hb d_Law_law_727 rfl (lv_at hl 0 rfl) ?_
  refine lv_iconst (v := 5) hx hb d_Law_law_728 (by decide) ?_
  refine lv_iadd hx hb d_Law_law_729 ?_
  refine sy_ti (y := nI (i + 5)) (nI_add i 5) ?_
  refine va_sld hx hb hX hbl hbA hS (vp_in_nI (n := i + 5) (by omega) (by omega)) d_Law_law_730 ?_
  refine sy_ti (y := xs (i + 5)) (by rw [nI_clamp (by omega)]) ?_
  refine lv_i2l (v := (xs (i + 5)).toInt64) hx hb d_Law_law_731 rfl ?_
  refine lv_ldc2 (v := 4294967295) hx hb hown (ht _ m_726) d_Law_law_732 ?_
  refine lv_land hx hb d_Law_law_735 ?_
  refine lv_lor hx hb d_Law_law_736 ?_
  refine lv_aload_n hx hb d_Law_law_737 rfl (lv_at hl 3 rfl) ?_
  refine lv_iload_n hx hb d_Law_law_738 rfl (lv_at hl 0 rfl) ?_
  refine lv_bipush (v := 6) hx hb d_Law_law_739 (by decide) ?_
  refine lv_iadd hx hb d_Law_law_741 ?_
  refine sy_ti (y := nI (i + 6)) (nI_add i 6) ?_
  refine va_sld hx hb hX hbl hbA hS (vp_in_nI (n := i + 6) (by omega) (by omega)) d_Law_law_742 ?_
  refine sy_ti (y := xs (i + 6)) (by rw [nI_clamp (by omega)]) ?_
  refine lv_i2l (v := (xs (i + 6)).toInt64) hx hb d_Law_law_743 rfl ?_
  refine lv_bipush (v := 32) hx hb d_Law_law_744 (by decide) ?_
  refine lv_lshl (v := ((xs (i + 6)).toInt64) <<< ((32 : Int32).toInt64 &&& 63)) hx hb d_Law_law_746 rfl ?_
  refine lv_aload_n hx hb d_Law_law_747 rfl (lv_at hl 3 rfl) ?_
  refine lv_iload_n hx hb d_Law_law_748 rfl (lv_at hl 0 rfl) ?_
  refine lv_bipush (v := 7) hx hb d_Law_law_749 (by decide) ?_
  refine lv_iadd hx hb d_Law_law_751 ?_
  refine sy_ti (y := nI (i + 7)) (nI_add i 7) ?_
  refine va_sld hx hb hX hbl hbA hS (vp_in_nI (n := i + 7) (by omega) (by omega)) d_Law_law_752 ?_
  refine sy_ti (y := xs (i + 7)) (by rw [nI_clamp (by omega)]) ?_
  refine lv_i2l (v := (xs (i + 7)).toInt64) hx hb d_Law_law_753 rfl ?_
  refine lv_ldc2 (v := 4294967295) hx hb hown (ht _ m_726) d_Law_law_754 ?_
  refine lv_land hx hb d_Law_law_757 ?_
  refine lv_lor hx hb d_Law_law_758 ?_
  refine vp_callSl (va_Run.run (sy_runV (As := [.int (xs (i + 1)), .int (xs (i + 2)), .int (xs (i + 3)), .long ((((xs (i + 4)).toInt64) <<< ((32 : Int32).toInt64 &&& 63)) ||| (((xs (i + 5)).toInt64) &&& 4294967295)), .long ((((xs (i + 6)).toInt64) <<< ((32 : Int32).toInt64 &&& 63)) ||| (((xs (i + 7)).toInt64) &&& 4294967295))]) (rest := []) (b := g 0) ⟨hx, hb, hml, hown, ht⟩ cl_Law_54 (c_DeviceSets_known l G g cx.nd cx.ns cx.nb cx.nT cx.fI cx.fL cx.nC cx.gI cx.gL cx.dl cx.df cx.dm cx.dk cx.so cx.sh cx.sv (xs (i + 1)) (xs (i + 2)) (xs (i + 3)) ((((xs (i + 4)).toInt64) <<< ((32 : Int32).toInt64 &&& 63)) ||| (((xs (i + 5)).toInt64) &&& 4294967295)) ((((xs (i + 6)).toInt64) <<< ((32 : Int32).toInt64 &&& 63)) ||| (((xs (i + 7)).toInt64) &&& 4294967295)) hd hs hn hc (fun d h => (hm d h).2)) hK ⟨sys_x hSP, sys_t hSP, sys_c hSP, sys_d hSP, sys_s hSP⟩ (va_recv hK.1 (sys_x hSP) (ci := 0) (q0 := 0) rfl rfl) rfl nm_DeviceSets_known rfl rfl ⟨Nat.le_of_ble_eq_true rfl, Nat.le_of_ble_eq_true rfl⟩ hl.1 (Nat.le_of_ble_eq_true rfl) d_Law_law_759 ⟨hrc, hrs⟩)) (fun r9 hr9 => ?_)
  subst hr9
  refine lv_aload_n hx hb d_Law_law_762 rfl (lv_at hl 1 rfl) ?_
  refine lv_aload_n hx hb d_Law_law_763 rfl (lv_at hl 3 rfl) ?_
  refine lv_iload_n hx hb d_Law_law_764 rfl (lv_at hl 0 rfl) ?_
  refine lv_iconst (v := 1) hx hb d_Law_law_765 (by decide) ?_
  refine lv_iadd hx hb d_Law_law_766 ?_
  refine sy_ti (y := nI (i + 1)) (nI_add i 1) ?_
  refine va_sld hx hb hX hbl hbA hS (vp_in_nI (n := i + 1) (by omega) (by omega)) d_Law_law_767 ?_
  refine sy_ti (y := xs (i + 1)) (by rw [nI_clamp (by omega)]) ?_
  refine lv_aload_n hx hb d_Law_law_768 rfl (lv_at hl 3 rfl) ?_
  refine lv_iload_n hx hb d_Law_law_769 rfl (lv_at hl 0 rfl) ?_
  refine lv_iconst (v := 2) hx hb d_Law_law_770 (by decide) ?_
  refine lv_iadd hx hb d_Law_law_771 ?_
  refine sy_ti (y := nI (i + 2)) (nI_add i 2) ?_
  refine va_sld hx hb hX hbl hbA hS (vp_in_nI (n := i + 2) (by omega) (by omega)) d_Law_law_772 ?_
  refine sy_ti (y := xs (i + 2)) (by rw [nI_clamp (by omega)]) ?_
  refine lv_aload_n hx hb d_Law_law_773 rfl (lv_at hl 3 rfl) ?_
  refine lv_iload_n hx hb d_Law_law_774 rfl (lv_at hl 0 rfl) ?_
  refine lv_iconst (v := 3) hx hb d_Law_law_775 (by decide) ?_
  refine lv_iadd hx hb d_Law_law_776 ?_
  refine sy_ti (y := nI (i + 3)) (nI_add i 3) ?_
  refine va_sld hx hb hX hbl hbA hS (vp_in_nI (n := i + 3) (by omega) (by omega)) d_Law_law_777 ?_
  refine sy_ti (y := xs (i + 3)) (by rw [nI_clamp (by omega)]) ?_
  refine lv_aload_n hx hb d_Law_law_778 rfl (lv_at hl 3 rfl) ?_
  refine lv_iload_n hx hb d_Law_law_779 rfl (lv_at hl 0 rfl) ?_
  refine lv_iconst (v := 4) hx hb d_Law_law_780 (by decide) ?_
  refine lv_iadd hx hb d_Law_law_781 ?_
  refine sy_ti (y := nI (i + 4)) (nI_add i 4) ?_
  refine va_sld hx hb hX hbl hbA hS (vp_in_nI (n := i + 4) (by omega) (by omega)) d_Law_law_782 ?_
  refine sy_ti (y := xs (i + 4)) (by rw [nI_clamp (by omega)]) ?_
  refine lv_i2l (v := (xs (i + 4)).toInt64) hx hb d_Law_law_783 rfl ?_
  refine lv_bipush (v := 32) hx hb d_Law_law_784 (by decide) ?_
  refine lv_lshl (v := ((xs (i + 4)).toInt64) <<< ((32 : Int32).toInt64 &&& 63)) hx hb d_Law_law_786 rfl ?_
  refine lv_aload_n hx hb d_Law_law_787 rfl (lv_at hl 3 rfl) ?_
  refine lv_iload_n hx hb d_Law_law_788 rfl (lv_at hl 0 rfl) ?_
  refine lv_iconst (v := 5) hx hb d_Law_law_789 (by decide) ?_
  refine lv_iadd hx hb d_Law_law_790 ?_
  refine sy_ti (y := nI (i + 5)) (nI_add i 5) ?_
  refine va_sld hx hb hX hbl hbA hS (vp_in_nI (n := i + 5) (by omega) (by omega)) d_Law_law_791 ?_
  refine sy_ti (y := xs (i + 5)) (by rw [nI_clamp (by omega)]) ?_
  refine lv_i2l (v := (xs (i + 5)).toInt64) hx hb d_Law_law_792 rfl ?_
  refine lv_ldc2 (v := 4294967295) hx hb hown (ht _ m_726) d_Law_law_793 ?_
  refine lv_land hx hb d_Law_law_796 ?_
  refine lv_lor hx hb d_Law_law_797 ?_
  refine lv_aload_n hx hb d_Law_law_798 rfl (lv_at hl 3 rfl) ?_
  refine lv_iload_n hx hb d_Law_law_799 rfl (lv_at hl 0 rfl) ?_
  refine lv_bipush (v := 6) hx hb d_Law_law_800 (by decide) ?_
  refine lv_iadd hx hb d_Law_law_802 ?_
  refine sy_ti (y := nI (i + 6)) (nI_add i 6) ?_
  refine va_sld hx hb hX hbl hbA hS (vp_in_nI (n := i + 6) (by omega) (by omega)) d_Law_law_803 ?_
  refine sy_ti (y := xs (i + 6)) (by rw [nI_clamp (by omega)]) ?_
  refine lv_i2l (v := (xs (i + 6)).toInt64) hx hb d_Law_law_804 rfl ?_
  refine lv_bipush (v := 32) hx hb d_Law_law_805 (by decide) ?_
  refine lv_lshl (v := ((xs (i + 6)).toInt64) <<< ((32 : Int32).toInt64 &&& 63)) hx hb d_Law_law_807 rfl ?_
  refine lv_aload_n hx hb d_Law_law_808 rfl (lv_at hl 3 rfl) ?_
  refine lv_iload_n hx hb d_Law_law_809 rfl (lv_at hl 0 rfl) ?_
  refine lv_bipush (v := 7) hx hb d_Law_law_810 (by decide) ?_
  refine lv_iadd hx hb d_Law_law_812 ?_
  refine sy_ti (y := nI (i + 7)) (nI_add i 7) ?_
  refine va_sld hx hb hX hbl hbA hS (vp_in_nI (n := i + 7) (by omega) (by omega)) d_Law_law_813 ?_
  refine sy_ti (y := xs (i + 7)) (by rw [nI_clamp (by omega)]) ?_
  refine lv_i2l (v := (xs (i + 7)).toInt64) hx hb d_Law_law_814 rfl ?_
  refine lv_ldc2 (v := 4294967295) hx hb hown (ht _ m_726) d_Law_law_815 ?_
  refine lv_land hx hb d_Law_law_818 ?_
  refine lv_lor hx hb d_Law_law_819 ?_
  refine vp_callSl (va_Run.run (sy_runV (As := [.int (xs (i + 1)), .int (xs (i + 2)), .int (xs (i + 3)), .long ((((xs (i + 4)).toInt64) <<< ((32 : Int32).toInt64 &&& 63)) ||| (((xs (i + 5)).toInt64) &&& 4294967295)), .long ((((xs (i + 6)).toInt64) <<< ((32 : Int32).toInt64 &&& 63)) ||| (((xs (i + 7)).toInt64) &&& 4294967295))]) (rest := [.long (xm_known cx.ns cx.nT cx.nC cx.fI cx.fL cx.gI cx.gL cx.sh (xs (i + 1)) (xs (i + 2)) (xs (i + 3)) ((((xs (i + 4)).toInt64) <<< ((32 : Int32).toInt64 &&& 63)) ||| (((xs (i + 5)).toInt64) &&& 4294967295)) ((((xs (i + 6)).toInt64) <<< ((32 : Int32).toInt64 &&& 63)) ||| (((xs (i + 7)).toInt64) &&& 4294967295)))]) (b := ob) ⟨hx, hb, hml, hown, ht⟩ cl_Law_58 (c_Model_known l G ob ad sc mI mL mZ (xs (i + 1)) (xs (i + 2)) (xs (i + 3)) ((((xs (i + 4)).toInt64) <<< ((32 : Int32).toInt64 &&& 63)) ||| (((xs (i + 5)).toInt64) &&& 4294967295)) ((((xs (i + 6)).toInt64) <<< ((32 : Int32).toInt64 &&& 63)) ||| (((xs (i + 7)).toInt64) &&& 4294967295)) (by omega) (by omega) (by omega)) hK hM (va_recv hK.1 hM (ci := 7) (q0 := 0) rfl rfl) rfl nm_Model_known rfl rfl ⟨Nat.le_of_ble_eq_true rfl, Nat.le_of_ble_eq_true rfl⟩ hl.1 (Nat.le_of_ble_eq_true rfl) d_Law_law_820 ⟨hrc, hrs⟩)) (fun r9 hr9 => ?_)
  subst hr9
  have hE9 := e_known hR (xs (i + 1)) (xs (i + 2)) (xs (i + 3)) ((((xs (i + 4)).toInt64) <<< ((32 : Int32).toInt64 &&& 63)) ||| (((xs (i + 5)).toInt64) &&& 4294967295)) ((((xs (i + 6)).toInt64) <<< ((32 : Int32).toInt64 &&& 63)) ||| (((xs (i + 7)).toInt64) &&& 4294967295))
  refine sy_lc_eq (tgt := 1384) hx hb d_Law_law_823 d_Law_law_824 (by decide) (fun c_1 => ?_) (fun c_1 => ?_)
  · exact kk g cx sc mI mL mZ _ _ rfl ⟨hSP, hSD, hM, hMD, hap, hS, hR, by omega⟩
  · exact absurd hE9 c_1
set_option maxHeartbeats 4000000 in
set_option maxRecDepth 100000 in
theorem law_c9 {p : Program} {l : Launch} {e : Env} {s : State} {m : MethodId} {below : List Frame} {meth : Method} {c : Code} {b L : Nat} {xs : Nat → Int32} (hL : L ≤ 5632) (C0 : lw_At p s m meth c b L xs) {G : sy_G} (hK : sy_K G s) {g : Nat → Nat} {cx : cs} {ob : Nat} {ad : Nat → Nat} {sc : Nat → Nat} {mI : Nat → Nat → Int32} {mL : Nat → Nat → Int64} {mZ : Nat → Nat → Bool} {H : Heap} {locs : List Loc} {i : Nat} (hi : i + 11 ≤ L) {Q : State → Prop} (hLW : LW s G g cx ob ad sc mI mL mZ i H locs) {ls : Array Slot} (hl : lv_has ls 4 [(3, .int (nI i)), (2, .ref ob), (1, .ref (g 0)), (0, .ref b)])
    (kk : ∀ (g9 : Nat → Nat) (cx9 : cs) (sc9 : Nat → Nat) (mI9 : Nat → Nat → Int32) (mL9 : Nat → Nat → Int64) (mZ9 : Nat → Nat → Bool) (H9 : Heap) (locs9 : List Loc), g9 0 = g 0 → LW s G g9 cx9 ob ad sc9 mI9 mL9 mZ9 (i + 1) H9 locs9 → W p l e room_1 s m #[Value.ref b] below meth c H9 locs9 (fc cx9) (fs cx9) Q (F0 m 1384 ls [])) :
    W p l e room_1 s m #[Value.ref b] below meth c H locs (fc cx) (fs cx) Q (F0 m 829 ls []) := by
  obtain ⟨hx, hb, hr, hml, hown0, hts, hX, hbl, hlocks, hgv⟩ := C0
  obtain ⟨hSP, hSD, hM, hMD, hap, hS, hR, h4n⟩ := hLW
  have hown : s.vm.findClass R_Law = some m.cls := hown0
  have ht : ∀ wd ∈ sy_T, wd.before #[Value.ref b] s = true := fun wd h => hts wd (List.mem_filter.mp h).1
  have hbA : ¬ (fun q : Nat => s.heap.size ≤ q) b := Nat.not_le.mpr hbl
  have e0 := hR.s0
  have e1 := hR.s1
  have e2 := hR.s2
  have e3 := hR.s3
  have e4 := hR.s4
  have b0 := hR.b0
  have b1 := hR.b1
  have b2 := hR.b2
  have b3 := hR.b3
  have hcb : cs_b cx := cs_bR hR (by omega)
  obtain ⟨hd, hs, hn, hc, hm, hb4⟩ := id hcb
  have hrc : fc cx + 0 ≤ room_1.cells := by show _ ≤ 600000; unfold fc; omega
  have hrs : fs cx + 0 ≤ room_1.slots := by show _ ≤ 7302250; unfold fs; omega
  refine lv_aload_n hx hb d_Law_law_829 rfl (lv_at hl 2 rfl) ?_
  refine lv_aload_n hx hb d_Law_law_830 rfl (lv_at hl 3 rfl) ?_
  refine lv_iload_n hx hb d_Law_law_831 rfl (lv_at hl 0 rfl) ?_
  refine lv_iconst (v := 1) hx hb d_Law_law_832 (by decide) ?_
  refine lv_iadd hx hb d_Law_law_833 ?_
  refine sy_ti (y := nI (i + 1)) (nI_add i 1) ?_
  refine va_sld hx hb hX hbl hbA hS (vp_in_nI (n := i + 1) (by omega) (by omega)) d_Law_law_834 ?_
  refine sy_ti (y := xs (i + 1)) (by rw [nI_clamp (by omega)]) ?_
  refine lv_aload_n hx hb d_Law_law_835 rfl (lv_at hl 3 rfl) ?_
  refine lv_iload_n hx hb d_Law_law_836 rfl (lv_at hl 0 rfl) ?_
  refine lv_iconst (v := 2) hx hb d_Law_law_837 (by decide) ?_
  refine lv_iadd hx hb d_Law_law_838 ?_
  refine sy_ti (y := nI (i + 2)) (nI_add i 2) ?_
  refine va_sld hx hb hX hbl hbA hS (vp_in_nI (n := i + 2) (by omega) (by omega)) d_Law_law_839 ?_
  refine sy_ti (y := xs (i + 2)) (by rw [nI_clamp (by omega)]) ?_
  refine lv_aload_n hx hb d_Law_law_840 rfl (lv_at hl 3 rfl) ?_
  refine lv_iload_n hx hb d_Law_law_841 rfl (lv_at hl 0 rfl) ?_
  refine lv_iconst (v := 3) hx hb d_Law_law_842 (by decide) ?_
  refine lv_iadd hx hb d_Law_law_843 ?_
  refine sy_ti (y := nI (i + 3)) (nI_add i 3) ?_
  refine va_sld hx hb hX hbl hbA hS (vp_in_nI (n := i + 3) (by omega) (by omega)) d_Law_law_844 ?_
  refine sy_ti (y := xs (i + 3)) (by rw [nI_clamp (by omega)]) ?_
  refine vp_callSi (va_Run.run (sy_runV (As := [.int (xs (i + 1)), .int (xs (i + 2)), .int (xs (i + 3))]) (rest := []) (b := g 0) ⟨hx, hb, hml, hown, ht⟩ cl_Law_59 (c_DeviceSets_gap l G g cx.nd cx.ns cx.nb cx.nT cx.fI cx.fL cx.nC cx.gI cx.gL cx.dl cx.df cx.dm cx.dk cx.so cx.sh cx.sv (xs (i + 1)) (xs (i + 2)) (xs (i + 3)) hd hs hn hc (fun d h => (hm d h).2)) hK ⟨sys_x hSP, sys_t hSP, sys_c hSP, sys_d hSP, sys_s hSP⟩ (va_recv hK.1 (sys_x hSP) (ci := 0) (q0 := 0) rfl rfl) rfl nm_DeviceSets_gap rfl rfl ⟨Nat.le_of_ble_eq_true rfl, Nat.le_of_ble_eq_true rfl⟩ hl.1 (Nat.le_of_ble_eq_true rfl) d_Law_law_845 ⟨hrc, hrs⟩)) (fun r9 hr9 => ?_)
  subst hr9
  refine lv_aload_n hx hb d_Law_law_848 rfl (lv_at hl 1 rfl) ?_
  refine lv_aload_n hx hb d_Law_law_849 rfl (lv_at hl 3 rfl) ?_
  refine lv_iload_n hx hb d_Law_law_850 rfl (lv_at hl 0 rfl) ?_
  refine lv_iconst (v := 1) hx hb d_Law_law_851 (by decide) ?_
  refine lv_iadd hx hb d_Law_law_852 ?_
  refine sy_ti (y := nI (i + 1)) (nI_add i 1) ?_
  refine va_sld hx hb hX hbl hbA hS (vp_in_nI (n := i + 1) (by omega) (by omega)) d_Law_law_853 ?_
  refine sy_ti (y := xs (i + 1)) (by rw [nI_clamp (by omega)]) ?_
  refine lv_aload_n hx hb d_Law_law_854 rfl (lv_at hl 3 rfl) ?_
  refine lv_iload_n hx hb d_Law_law_855 rfl (lv_at hl 0 rfl) ?_
  refine lv_iconst (v := 2) hx hb d_Law_law_856 (by decide) ?_
  refine lv_iadd hx hb d_Law_law_857 ?_
  refine sy_ti (y := nI (i + 2)) (nI_add i 2) ?_
  refine va_sld hx hb hX hbl hbA hS (vp_in_nI (n := i + 2) (by omega) (by omega)) d_Law_law_858 ?_
  refine sy_ti (y := xs (i + 2)) (by rw [nI_clamp (by omega)]) ?_
  refine lv_aload_n hx hb d_Law_law_859 rfl (lv_at hl 3 rfl) ?_
  refine lv_iload_n hx hb d_Law_law_860 rfl (lv_at hl 0 rfl) ?_
  refine lv_iconst (v := 3) hx hb d_Law_law_861 (by decide) ?_
  refine lv_iadd hx hb d_Law_law_862 ?_
  refine sy_ti (y := nI (i + 3)) (nI_add i 3) ?_
  refine va_sld hx hb hX hbl hbA hS (vp_in_nI (n := i + 3) (by omega) (by omega)) d_Law_law_863 ?_
  refine sy_ti (y := xs (i + 3)) (by rw [nI_clamp (by omega)]) ?_
  refine vp_callSi (va_Run.run (sy_runV (As := [.int (xs (i + 1)), .int (xs (i + 2)), .int (xs (i + 3))]) (rest := [.int (xm_gap cx.ns cx.nT cx.fI cx.sh (xs (i + 1)) (xs (i + 2)) (xs (i + 3)))]) (b := ob) ⟨hx, hb, hml, hown, ht⟩ cl_Law_63 (c_Model_gap l G ob ad sc mI mL mZ (xs (i + 1)) (xs (i + 2)) (xs (i + 3)) (by omega) (by omega)) hK hM (va_recv hK.1 hM (ci := 7) (q0 := 0) rfl rfl) rfl nm_Model_gap rfl rfl ⟨Nat.le_of_ble_eq_true rfl, Nat.le_of_ble_eq_true rfl⟩ hl.1 (Nat.le_of_ble_eq_true rfl) d_Law_law_864 ⟨hrc, hrs⟩)) (fun r9 hr9 => ?_)
  subst hr9
  have hE9 := e_gap hR (xs (i + 1)) (xs (i + 2)) (xs (i + 3))
  refine lv_icmp_eq (tgt := 1384) hx hb d_Law_law_867 (by decide) (fun c_1 => ?_) (fun c_1 => ?_)
  · exact kk g cx sc mI mL mZ _ _ rfl ⟨hSP, hSD, hM, hMD, hap, hS, hR, by omega⟩
  · exact absurd hE9 c_1
set_option maxHeartbeats 4000000 in
set_option maxRecDepth 100000 in
theorem law_c10 {p : Program} {l : Launch} {e : Env} {s : State} {m : MethodId} {below : List Frame} {meth : Method} {c : Code} {b L : Nat} {xs : Nat → Int32} (hL : L ≤ 5632) (C0 : lw_At p s m meth c b L xs) {G : sy_G} (hK : sy_K G s) {g : Nat → Nat} {cx : cs} {ob : Nat} {ad : Nat → Nat} {sc : Nat → Nat} {mI : Nat → Nat → Int32} {mL : Nat → Nat → Int64} {mZ : Nat → Nat → Bool} {H : Heap} {locs : List Loc} {i : Nat} (hi : i + 11 ≤ L) {Q : State → Prop} (hLW : LW s G g cx ob ad sc mI mL mZ i H locs) {ls : Array Slot} (hl : lv_has ls 4 [(3, .int (nI i)), (2, .ref ob), (1, .ref (g 0)), (0, .ref b)])
    (kk : ∀ (g9 : Nat → Nat) (cx9 : cs) (sc9 : Nat → Nat) (mI9 : Nat → Nat → Int32) (mL9 : Nat → Nat → Int64) (mZ9 : Nat → Nat → Bool) (H9 : Heap) (locs9 : List Loc), g9 0 = g 0 → LW s G g9 cx9 ob ad sc9 mI9 mL9 mZ9 (i + 1) H9 locs9 → W p l e room_1 s m #[Value.ref b] below meth c H9 locs9 (fc cx9) (fs cx9) Q (F0 m 1384 ls [])) :
    W p l e room_1 s m #[Value.ref b] below meth c H locs (fc cx) (fs cx) Q (F0 m 872 ls []) := by
  obtain ⟨hx, hb, hr, hml, hown0, hts, hX, hbl, hlocks, hgv⟩ := C0
  obtain ⟨hSP, hSD, hM, hMD, hap, hS, hR, h4n⟩ := hLW
  have hown : s.vm.findClass R_Law = some m.cls := hown0
  have ht : ∀ wd ∈ sy_T, wd.before #[Value.ref b] s = true := fun wd h => hts wd (List.mem_filter.mp h).1
  have hbA : ¬ (fun q : Nat => s.heap.size ≤ q) b := Nat.not_le.mpr hbl
  have e0 := hR.s0
  have e1 := hR.s1
  have e2 := hR.s2
  have e3 := hR.s3
  have e4 := hR.s4
  have b0 := hR.b0
  have b1 := hR.b1
  have b2 := hR.b2
  have b3 := hR.b3
  have hcb : cs_b cx := cs_bR hR (by omega)
  obtain ⟨hd, hs, hn, hc, hm, hb4⟩ := id hcb
  have hrc : fc cx + 0 ≤ room_1.cells := by show _ ≤ 600000; unfold fc; omega
  have hrs : fs cx + 0 ≤ room_1.slots := by show _ ≤ 7302250; unfold fs; omega
  refine lv_aload_n hx hb d_Law_law_872 rfl (lv_at hl 2 rfl) ?_
  refine lv_aload_n hx hb d_Law_law_873 rfl (lv_at hl 3 rfl) ?_
  refine lv_iload_n hx hb d_Law_law_874 rfl (lv_at hl 0 rfl) ?_
  refine lv_iconst (v := 1) hx hb d_Law_law_875 (by decide) ?_
  refine lv_iadd hx hb d_Law_law_876 ?_
  refine sy_ti (y := nI (i + 1)) (nI_add i 1) ?_
  refine va_sld hx hb hX hbl hbA hS (vp_in_nI (n := i + 1) (by omega) (by omega)) d_Law_law_877 ?_
  refine sy_ti (y := xs (i + 1)) (by rw [nI_clamp (by omega)]) ?_
  refine lv_aload_n hx hb d_Law_law_878 rfl (lv_at hl 3 rfl) ?_
  refine lv_iload_n hx hb d_Law_law_879 rfl (lv_at hl 0 rfl) ?_
  refine lv_iconst (v := 2) hx hb d_Law_law_880 (by decide) ?_
  refine lv_iadd hx hb d_Law_law_881 ?_
  refine sy_ti (y := nI (i + 2)) (nI_add i 2) ?_
  refine va_sld hx hb hX hbl hbA hS (vp_in_nI (n := i + 2) (by omega) (by omega)) d_Law_law_882 ?_
  refine sy_ti (y := xs (i + 2)) (by rw [nI_clamp (by omega)]) ?_
  refine lv_aload_n hx hb d_Law_law_883 rfl (lv_at hl 3 rfl) ?_
  refine lv_iload_n hx hb d_Law_law_884 rfl (lv_at hl 0 rfl) ?_
  refine lv_iconst (v := 3) hx hb d_Law_law_885 (by decide) ?_
  refine lv_iadd hx hb d_Law_law_886 ?_
  refine sy_ti (y := nI (i + 3)) (nI_add i 3) ?_
  refine va_sld hx hb hX hbl hbA hS (vp_in_nI (n := i + 3) (by omega) (by omega)) d_Law_law_887 ?_
  refine sy_ti (y := xs (i + 3)) (by rw [nI_clamp (by omega)]) ?_
  refine vp_callSi (va_Run.run (sy_runV (As := [.int (xs (i + 1)), .int (xs (i + 2)), .int (xs (i + 3))]) (rest := []) (b := g 0) ⟨hx, hb, hml, hown, ht⟩ cl_Law_64 (c_DeviceSets_conflict l G g cx.nd cx.ns cx.nb cx.nT cx.fI cx.fL cx.nC cx.gI cx.gL cx.dl cx.df cx.dm cx.dk cx.so cx.sh cx.sv (xs (i + 1)) (xs (i + 2)) (xs (i + 3)) hd hs hn hc (fun d h => (hm d h).2)) hK ⟨sys_x hSP, sys_t hSP, sys_c hSP, sys_d hSP, sys_s hSP⟩ (va_recv hK.1 (sys_x hSP) (ci := 0) (q0 := 0) rfl rfl) rfl nm_DeviceSets_conflict rfl rfl ⟨Nat.le_of_ble_eq_true rfl, Nat.le_of_ble_eq_true rfl⟩ hl.1 (Nat.le_of_ble_eq_true rfl) d_Law_law_888 ⟨hrc, hrs⟩)) (fun r9 hr9 => ?_)
  subst hr9
  refine lv_aload_n hx hb d_Law_law_891 rfl (lv_at hl 1 rfl) ?_
  refine lv_aload_n hx hb d_Law_law_892 rfl (lv_at hl 3 rfl) ?_
  refine lv_iload_n hx hb d_Law_law_893 rfl (lv_at hl 0 rfl) ?_
  refine lv_iconst (v := 1) hx hb d_Law_law_894 (by decide) ?_
  refine lv_iadd hx hb d_Law_law_895 ?_
  refine sy_ti (y := nI (i + 1)) (nI_add i 1) ?_
  refine va_sld hx hb hX hbl hbA hS (vp_in_nI (n := i + 1) (by omega) (by omega)) d_Law_law_896 ?_
  refine sy_ti (y := xs (i + 1)) (by rw [nI_clamp (by omega)]) ?_
  refine lv_aload_n hx hb d_Law_law_897 rfl (lv_at hl 3 rfl) ?_
  refine lv_iload_n hx hb d_Law_law_898 rfl (lv_at hl 0 rfl) ?_
  refine lv_iconst (v := 2) hx hb d_Law_law_899 (by decide) ?_
  refine lv_iadd hx hb d_Law_law_900 ?_
  refine sy_ti (y := nI (i + 2)) (nI_add i 2) ?_
  refine va_sld hx hb hX hbl hbA hS (vp_in_nI (n := i + 2) (by omega) (by omega)) d_Law_law_901 ?_
  refine sy_ti (y := xs (i + 2)) (by rw [nI_clamp (by omega)]) ?_
  refine lv_aload_n hx hb d_Law_law_902 rfl (lv_at hl 3 rfl) ?_
  refine lv_iload_n hx hb d_Law_law_903 rfl (lv_at hl 0 rfl) ?_
  refine lv_iconst (v := 3) hx hb d_Law_law_904 (by decide) ?_
  refine lv_iadd hx hb d_Law_law_905 ?_
  refine sy_ti (y := nI (i + 3)) (nI_add i 3) ?_
  refine va_sld hx hb hX hbl hbA hS (vp_in_nI (n := i + 3) (by omega) (by omega)) d_Law_law_906 ?_
  refine sy_ti (y := xs (i + 3)) (by rw [nI_clamp (by omega)]) ?_
  refine vp_callSi (va_Run.run (sy_runV (As := [.int (xs (i + 1)), .int (xs (i + 2)), .int (xs (i + 3))]) (rest := [.int (xm_conflict cx.ns cx.nT cx.fI cx.fL cx.sh (xs (i + 1)) (xs (i + 2)) (xs (i + 3)))]) (b := ob) ⟨hx, hb, hml, hown, ht⟩ cl_Law_67 (c_Model_conflict l G ob ad sc mI mL mZ (xs (i + 1)) (xs (i + 2)) (xs (i + 3)) (by omega) (by omega)) hK hM (va_recv hK.1 hM (ci := 7) (q0 := 0) rfl rfl) rfl nm_Model_conflict rfl rfl ⟨Nat.le_of_ble_eq_true rfl, Nat.le_of_ble_eq_true rfl⟩ hl.1 (Nat.le_of_ble_eq_true rfl) d_Law_law_907 ⟨hrc, hrs⟩)) (fun r9 hr9 => ?_)
  subst hr9
  have hE9 := e_conflict hR (xs (i + 1)) (xs (i + 2)) (xs (i + 3))
  refine lv_icmp_eq (tgt := 1384) hx hb d_Law_law_910 (by decide) (fun c_1 => ?_) (fun c_1 => ?_)
  · exact kk g cx sc mI mL mZ _ _ rfl ⟨hSP, hSD, hM, hMD, hap, hS, hR, by omega⟩
  · exact absurd hE9 c_1
set_option maxHeartbeats 4000000 in
set_option maxRecDepth 100000 in
theorem law_c11 {p : Program} {l : Launch} {e : Env} {s : State} {m : MethodId} {below : List Frame} {meth : Method} {c : Code} {b L : Nat} {xs : Nat → Int32} (hL : L ≤ 5632) (C0 : lw_At p s m meth c b L xs) {G : sy_G} (hK : sy_K G s) {g : Nat → Nat} {cx : cs} {ob : Nat} {ad : Nat → Nat} {sc : Nat → Nat} {mI : Nat → Nat → Int32} {mL : Nat → Nat → Int64} {mZ : Nat → Nat → Bool} {H : Heap} {locs : List Loc} {i : Nat} (hi : i + 11 ≤ L) {Q : State → Prop} (hLW : LW s G g cx ob ad sc mI mL mZ i H locs) {ls : Array Slot} (hl : lv_has ls 4 [(3, .int (nI i)), (2, .ref ob), (1, .ref (g 0)), (0, .ref b)])
    (kk : ∀ (g9 : Nat → Nat) (cx9 : cs) (sc9 : Nat → Nat) (mI9 : Nat → Nat → Int32) (mL9 : Nat → Nat → Int64) (mZ9 : Nat → Nat → Bool) (H9 : Heap) (locs9 : List Loc), g9 0 = g 0 → LW s G g9 cx9 ob ad sc9 mI9 mL9 mZ9 (i + 1) H9 locs9 → W p l e room_1 s m #[Value.ref b] below meth c H9 locs9 (fc cx9) (fs cx9) Q (F0 m 1384 ls [])) :
    W p l e room_1 s m #[Value.ref b] below meth c H locs (fc cx) (fs cx) Q (F0 m 915 ls []) := by
  obtain ⟨hx, hb, hr, hml, hown0, hts, hX, hbl, hlocks, hgv⟩ := C0
  obtain ⟨hSP, hSD, hM, hMD, hap, hS, hR, h4n⟩ := hLW
  have hown : s.vm.findClass R_Law = some m.cls := hown0
  have ht : ∀ wd ∈ sy_T, wd.before #[Value.ref b] s = true := fun wd h => hts wd (List.mem_filter.mp h).1
  have hbA : ¬ (fun q : Nat => s.heap.size ≤ q) b := Nat.not_le.mpr hbl
  have e0 := hR.s0
  have e1 := hR.s1
  have e2 := hR.s2
  have e3 := hR.s3
  have e4 := hR.s4
  have b0 := hR.b0
  have b1 := hR.b1
  have b2 := hR.b2
  have b3 := hR.b3
  have hcb : cs_b cx := cs_bR hR (by omega)
  obtain ⟨hd, hs, hn, hc, hm, hb4⟩ := id hcb
  have hrc : fc cx + 0 ≤ room_1.cells := by show _ ≤ 600000; unfold fc; omega
  have hrs : fs cx + 0 ≤ room_1.slots := by show _ ≤ 7302250; unfold fs; omega
  refine lv_aload_n hx hb d_Law_law_915 rfl (lv_at hl 2 rfl) ?_
  refine lv_aload_n hx hb d_Law_law_916 rfl (lv_at hl 3 rfl) ?_
  refine lv_iload_n hx hb d_Law_law_917 rfl (lv_at hl 0 rfl) ?_
  refine lv_iconst (v := 1) hx hb d_Law_law_918 (by decide) ?_
  refine lv_iadd hx hb d_Law_law_919 ?_
  refine sy_ti (y := nI (i + 1)) (nI_add i 1) ?_
  refine va_sld hx hb hX hbl hbA hS (vp_in_nI (n := i + 1) (by omega) (by omega)) d_Law_law_920 ?_
  refine sy_ti (y := xs (i + 1)) (by rw [nI_clamp (by omega)]) ?_
  refine lv_aload_n hx hb d_Law_law_921 rfl (lv_at hl 3 rfl) ?_
  refine lv_iload_n hx hb d_Law_law_922 rfl (lv_at hl 0 rfl) ?_
  refine lv_iconst (v := 2) hx hb d_Law_law_923 (by decide) ?_
  refine lv_iadd hx hb d_Law_law_924 ?_
  refine sy_ti (y := nI (i + 2)) (nI_add i 2) ?_
  refine va_sld hx hb hX hbl hbA hS (vp_in_nI (n := i + 2) (by omega) (by omega)) d_Law_law_925 ?_
  refine sy_ti (y := xs (i + 2)) (by rw [nI_clamp (by omega)]) ?_
  refine lv_aload_n hx hb d_Law_law_926 rfl (lv_at hl 3 rfl) ?_
  refine lv_iload_n hx hb d_Law_law_927 rfl (lv_at hl 0 rfl) ?_
  refine lv_iconst (v := 3) hx hb d_Law_law_928 (by decide) ?_
  refine lv_iadd hx hb d_Law_law_929 ?_
  refine sy_ti (y := nI (i + 3)) (nI_add i 3) ?_
  refine va_sld hx hb hX hbl hbA hS (vp_in_nI (n := i + 3) (by omega) (by omega)) d_Law_law_930 ?_
  refine sy_ti (y := xs (i + 3)) (by rw [nI_clamp (by omega)]) ?_
  refine lv_aload_n hx hb d_Law_law_931 rfl (lv_at hl 3 rfl) ?_
  refine lv_iload_n hx hb d_Law_law_932 rfl (lv_at hl 0 rfl) ?_
  refine lv_iconst (v := 4) hx hb d_Law_law_933 (by decide) ?_
  refine lv_iadd hx hb d_Law_law_934 ?_
  refine sy_ti (y := nI (i + 4)) (nI_add i 4) ?_
  refine va_sld hx hb hX hbl hbA hS (vp_in_nI (n := i + 4) (by omega) (by omega)) d_Law_law_935 ?_
  refine sy_ti (y := xs (i + 4)) (by rw [nI_clamp (by omega)]) ?_
  refine va_calli (sy_runV (As := [.int (xs (i + 1)), .int (xs (i + 2)), .int (xs (i + 3)), .int (xs (i + 4))]) (rest := []) (b := g 0) ⟨hx, hb, hml, hown, ht⟩ cl_Law_68 (s_settle l G g cx hcb (xs (i + 1)) (xs (i + 2)) (xs (i + 3)) (xs (i + 4))) hK ⟨hSP, ss_anyD hSD⟩ (va_recv hK.1 (sys_x hSP) (ci := 0) (q0 := 0) rfl rfl) rfl nm_DeviceSets_settle rfl rfl ⟨Nat.le_of_ble_eq_true rfl, Nat.le_of_ble_eq_true rfl⟩ hl.1 (Nat.le_of_ble_eq_true rfl) d_Law_law_936 ⟨hrc, hrs⟩) hS (fun q _ h => ss_in hSD h) (fun q h => ss_in hSD h) (fun r9 u9 t9 H9 locs ht9 hvm9 hw9 hB9 hz9 hk9 hS => ?_)
  obtain ⟨hr9, hu9⟩ := hw9
  subst hr9
  subst hu9
  rw [ht9] at hB9
  have hM : va_P G.1 classes (mw G.2 ob ad sc mI mL mZ) H9 := lx_M hM hap hk9
  have hxa : ∀ i9 : sid, (sy_cell G.2 g (x_settle cx (xs (i + 1)) (xs (i + 2)) (xs (i + 3)) (xs (i + 4))).2 i9).map Prod.fst = (sy_cell G.2 g cx i9).map Prod.fst := fun i9 => xa_settle i9
  have hSP : sys_P G g (x_settle cx (xs (i + 1)) (xs (i + 2)) (xs (i + 3)) (xs (i + 4))).2 H9 := hB9
  have hSD : sys_D (fun q => s.heap.size ≤ q) G g (x_settle cx (xs (i + 1)) (xs (i + 2)) (xs (i + 3)) (xs (i + 4))).2 := ss_setD hSD hxa
  have hap : ∀ q, sys_A G g (x_settle cx (xs (i + 1)) (xs (i + 2)) (xs (i + 3)) (xs (i + 4))).2 q → ¬ sy_A (mw G.2 ob ad sc mI mL mZ) q := fun q h => hap q (ss_Aa hxa h)
  generalize H9 = H at hSP hM hS ⊢
  have hf9 : fc (x_settle cx (xs (i + 1)) (xs (i + 2)) (xs (i + 3)) (xs (i + 4))).2 = fc cx ∧ fs (x_settle cx (xs (i + 1)) (xs (i + 2)) (xs (i + 3)) (xs (i + 4))).2 = fs cx := f_settle
  refine lv_aload_n hx hb d_Law_law_939 rfl (lv_at hl 1 rfl) ?_
  refine lv_aload_n hx hb d_Law_law_940 rfl (lv_at hl 3 rfl) ?_
  refine lv_iload_n hx hb d_Law_law_941 rfl (lv_at hl 0 rfl) ?_
  refine lv_iconst (v := 1) hx hb d_Law_law_942 (by decide) ?_
  refine lv_iadd hx hb d_Law_law_943 ?_
  refine sy_ti (y := nI (i + 1)) (nI_add i 1) ?_
  refine va_sld hx hb hX hbl hbA hS (vp_in_nI (n := i + 1) (by omega) (by omega)) d_Law_law_944 ?_
  refine sy_ti (y := xs (i + 1)) (by rw [nI_clamp (by omega)]) ?_
  refine lv_aload_n hx hb d_Law_law_945 rfl (lv_at hl 3 rfl) ?_
  refine lv_iload_n hx hb d_Law_law_946 rfl (lv_at hl 0 rfl) ?_
  refine lv_iconst (v := 2) hx hb d_Law_law_947 (by decide) ?_
  refine lv_iadd hx hb d_Law_law_948 ?_
  refine sy_ti (y := nI (i + 2)) (nI_add i 2) ?_
  refine va_sld hx hb hX hbl hbA hS (vp_in_nI (n := i + 2) (by omega) (by omega)) d_Law_law_949 ?_
  refine sy_ti (y := xs (i + 2)) (by rw [nI_clamp (by omega)]) ?_
  refine lv_aload_n hx hb d_Law_law_950 rfl (lv_at hl 3 rfl) ?_
  refine lv_iload_n hx hb d_Law_law_951 rfl (lv_at hl 0 rfl) ?_
  refine lv_iconst (v := 3) hx hb d_Law_law_952 (by decide) ?_
  refine lv_iadd hx hb d_Law_law_953 ?_
  refine sy_ti (y := nI (i + 3)) (nI_add i 3) ?_
  refine va_sld hx hb hX hbl hbA hS (vp_in_nI (n := i + 3) (by omega) (by omega)) d_Law_law_954 ?_
  refine sy_ti (y := xs (i + 3)) (by rw [nI_clamp (by omega)]) ?_
  refine lv_aload_n hx hb d_Law_law_955 rfl (lv_at hl 3 rfl) ?_
  refine lv_iload_n hx hb d_Law_law_956 rfl (lv_at hl 0 rfl) ?_
  refine lv_iconst (v := 4) hx hb d_Law_law_957 (by decide) ?_
  refine lv_iadd hx hb d_Law_law_958 ?_
  refine sy_ti (y := nI (i + 4)) (nI_add i 4) ?_
  refine va_sld hx hb hX hbl hbA hS (vp_in_nI (n := i + 4) (by omega) (by omega)) d_Law_law_959 ?_
  refine sy_ti (y := xs (i + 4)) (by rw [nI_clamp (by omega)]) ?_
  refine va_calli (sy_runV (As := [.int (xs (i + 1)), .int (xs (i + 2)), .int (xs (i + 3)), .int (xs (i + 4))]) (rest := [.int ((x_settle cx (xs (i + 1)) (xs (i + 2)) (xs (i + 3)) (xs (i + 4))).1)]) (b := ob) ⟨hx, hb, hml, hown, ht⟩ cl_Law_72 (c_Model_settle l G ob ad sc mI mL mZ (xs (i + 1)) (xs (i + 2)) (xs (i + 3)) (xs (i + 4)) (by omega) (by omega)) hK ⟨hM, sy_any hMD⟩ (va_recv hK.1 hM (ci := 7) (q0 := 0) rfl rfl) rfl nm_Model_settle rfl rfl ⟨Nat.le_of_ble_eq_true rfl, Nat.le_of_ble_eq_true rfl⟩ hl.1 (Nat.le_of_ble_eq_true rfl) d_Law_law_960 ⟨hrc, hrs⟩) hS (fun q _ h => sy_in hMD h) (fun q h => sy_in hMD h) (fun r9 u9 t9 H9 locs ht9 hvm9 hw9 hB9 hz9 hk9 hS => ?_)
  obtain ⟨hr9, hu9⟩ := hw9
  subst hr9
  subst hu9
  rw [ht9] at hB9
  have hSP : sys_P G g (x_settle cx (xs (i + 1)) (xs (i + 2)) (xs (i + 3)) (xs (i + 4))).2 H9 := lx_S hSP hap hk9
  have hM : va_P G.1 classes (mw G.2 ob ad (mo_settle sc mI mL mZ (xs (i + 1)) (xs (i + 2)) (xs (i + 3)) (xs (i + 4))).2.1 (mo_settle sc mI mL mZ (xs (i + 1)) (xs (i + 2)) (xs (i + 3)) (xs (i + 4))).2.2.1 (mo_settle sc mI mL mZ (xs (i + 1)) (xs (i + 2)) (xs (i + 3)) (xs (i + 4))).2.2.2.1 (mo_settle sc mI mL mZ (xs (i + 1)) (xs (i + 2)) (xs (i + 3)) (xs (i + 4))).2.2.2.2) H9 := hB9
  have hMD : va_D (fun q => s.heap.size ≤ q) (mw G.2 ob ad (mo_settle sc mI mL mZ (xs (i + 1)) (xs (i + 2)) (xs (i + 3)) (xs (i + 4))).2.1 (mo_settle sc mI mL mZ (xs (i + 1)) (xs (i + 2)) (xs (i + 3)) (xs (i + 4))).2.2.1 (mo_settle sc mI mL mZ (xs (i + 1)) (xs (i + 2)) (xs (i + 3)) (xs (i + 4))).2.2.2.1 (mo_settle sc mI mL mZ (xs (i + 1)) (xs (i + 2)) (xs (i + 3)) (xs (i + 4))).2.2.2.2) := sy_Da hMD rfl
  have hap : ∀ q, sys_A G g (x_settle cx (xs (i + 1)) (xs (i + 2)) (xs (i + 3)) (xs (i + 4))).2 q → ¬ sy_A (mw G.2 ob ad (mo_settle sc mI mL mZ (xs (i + 1)) (xs (i + 2)) (xs (i + 3)) (xs (i + 4))).2.1 (mo_settle sc mI mL mZ (xs (i + 1)) (xs (i + 2)) (xs (i + 3)) (xs (i + 4))).2.2.1 (mo_settle sc mI mL mZ (xs (i + 1)) (xs (i + 2)) (xs (i + 3)) (xs (i + 4))).2.2.2.1 (mo_settle sc mI mL mZ (xs (i + 1)) (xs (i + 2)) (xs (i + 3)) (xs (i + 4))).2.2.2.2) q := fun q h h2 => hap q h (sy_Aa (ws := mw G.2 ob ad sc mI mL mZ) (ws' := mw G.2 ob ad (mo_settle sc mI mL mZ (xs (i + 1)) (xs (i + 2)) (xs (i + 3)) (xs (i + 4))).2.1 (mo_settle sc mI mL mZ (xs (i + 1)) (xs (i + 2)) (xs (i + 3)) (xs (i + 4))).2.2.1 (mo_settle sc mI mL mZ (xs (i + 1)) (xs (i + 2)) (xs (i + 3)) (xs (i + 4))).2.2.2.1 (mo_settle sc mI mL mZ (xs (i + 1)) (xs (i + 2)) (xs (i + 3)) (xs (i + 4))).2.2.2.2) rfl h2)
  generalize H9 = H at hSP hM hS ⊢
  have hE := e_settle hR (xs (i + 1)) (xs (i + 2)) (xs (i + 3)) (xs (i + 4))
  have hE9 := hE.1
  have hR := hE.2
  have hq4 : (mo_settle sc mI mL mZ (xs (i + 1)) (xs (i + 2)) (xs (i + 3)) (xs (i + 4))).2.1 4 ≤ sc 4 + 1 := q_settle
  refine lv_icmp_eq (tgt := 1384) hx hb d_Law_law_963 (by decide) (fun c_1 => ?_) (fun c_1 => ?_)
  · rw [← hf9.1, ← hf9.2]
    exact kk g (x_settle cx (xs (i + 1)) (xs (i + 2)) (xs (i + 3)) (xs (i + 4))).2 (mo_settle sc mI mL mZ (xs (i + 1)) (xs (i + 2)) (xs (i + 3)) (xs (i + 4))).2.1 (mo_settle sc mI mL mZ (xs (i + 1)) (xs (i + 2)) (xs (i + 3)) (xs (i + 4))).2.2.1 (mo_settle sc mI mL mZ (xs (i + 1)) (xs (i + 2)) (xs (i + 3)) (xs (i + 4))).2.2.2.1 (mo_settle sc mI mL mZ (xs (i + 1)) (xs (i + 2)) (xs (i + 3)) (xs (i + 4))).2.2.2.2 _ _ rfl ⟨hSP, hSD, hM, hMD, hap, hS, hR, by omega⟩
  · exact absurd hE9 c_1
set_option maxHeartbeats 4000000 in
set_option maxRecDepth 100000 in
theorem law_c12 {p : Program} {l : Launch} {e : Env} {s : State} {m : MethodId} {below : List Frame} {meth : Method} {c : Code} {b L : Nat} {xs : Nat → Int32} (hL : L ≤ 5632) (C0 : lw_At p s m meth c b L xs) {G : sy_G} (hK : sy_K G s) {g : Nat → Nat} {cx : cs} {ob : Nat} {ad : Nat → Nat} {sc : Nat → Nat} {mI : Nat → Nat → Int32} {mL : Nat → Nat → Int64} {mZ : Nat → Nat → Bool} {H : Heap} {locs : List Loc} {i : Nat} (hi : i + 11 ≤ L) {Q : State → Prop} (hLW : LW s G g cx ob ad sc mI mL mZ i H locs) {ls : Array Slot} (hl : lv_has ls 4 [(3, .int (nI i)), (2, .ref ob), (1, .ref (g 0)), (0, .ref b)])
    (kk : ∀ (g9 : Nat → Nat) (cx9 : cs) (sc9 : Nat → Nat) (mI9 : Nat → Nat → Int32) (mL9 : Nat → Nat → Int64) (mZ9 : Nat → Nat → Bool) (H9 : Heap) (locs9 : List Loc), g9 0 = g 0 → LW s G g9 cx9 ob ad sc9 mI9 mL9 mZ9 (i + 1) H9 locs9 → W p l e room_1 s m #[Value.ref b] below meth c H9 locs9 (fc cx9) (fs cx9) Q (F0 m 1384 ls [])) :
    W p l e room_1 s m #[Value.ref b] below meth c H locs (fc cx) (fs cx) Q (F0 m 968 ls []) := by
  obtain ⟨hx, hb, hr, hml, hown0, hts, hX, hbl, hlocks, hgv⟩ := C0
  obtain ⟨hSP, hSD, hM, hMD, hap, hS, hR, h4n⟩ := hLW
  have hown : s.vm.findClass R_Law = some m.cls := hown0
  have ht : ∀ wd ∈ sy_T, wd.before #[Value.ref b] s = true := fun wd h => hts wd (List.mem_filter.mp h).1
  have hbA : ¬ (fun q : Nat => s.heap.size ≤ q) b := Nat.not_le.mpr hbl
  have e0 := hR.s0
  have e1 := hR.s1
  have e2 := hR.s2
  have e3 := hR.s3
  have e4 := hR.s4
  have b0 := hR.b0
  have b1 := hR.b1
  have b2 := hR.b2
  have b3 := hR.b3
  have hcb : cs_b cx := cs_bR hR (by omega)
  obtain ⟨hd, hs, hn, hc, hm, hb4⟩ := id hcb
  have hrc : fc cx + 0 ≤ room_1.cells := by show _ ≤ 600000; unfold fc; omega
  have hrs : fs cx + 0 ≤ room_1.slots := by show _ ≤ 7302250; unfold fs; omega
  refine lv_aload_n hx hb d_Law_law_968 rfl (lv_at hl 2 rfl) ?_
  refine lv_aload_n hx hb d_Law_law_969 rfl (lv_at hl 3 rfl) ?_
  refine lv_iload_n hx hb d_Law_law_970 rfl (lv_at hl 0 rfl) ?_
  refine lv_iconst (v := 1) hx hb d_Law_law_971 (by decide) ?_
  refine lv_iadd hx hb d_Law_law_972 ?_
  refine sy_ti (y := nI (i + 1)) (nI_add i 1) ?_
  refine va_sld hx hb hX hbl hbA hS (vp_in_nI (n := i + 1) (by omega) (by omega)) d_Law_law_973 ?_
  refine sy_ti (y := xs (i + 1)) (by rw [nI_clamp (by omega)]) ?_
  refine lv_aload_n hx hb d_Law_law_974 rfl (lv_at hl 3 rfl) ?_
  refine lv_iload_n hx hb d_Law_law_975 rfl (lv_at hl 0 rfl) ?_
  refine lv_iconst (v := 2) hx hb d_Law_law_976 (by decide) ?_
  refine lv_iadd hx hb d_Law_law_977 ?_
  refine sy_ti (y := nI (i + 2)) (nI_add i 2) ?_
  refine va_sld hx hb hX hbl hbA hS (vp_in_nI (n := i + 2) (by omega) (by omega)) d_Law_law_978 ?_
  refine sy_ti (y := xs (i + 2)) (by rw [nI_clamp (by omega)]) ?_
  refine vp_callSi (va_Run.run (sy_runV (As := [.int (xs (i + 1)), .int (xs (i + 2))]) (rest := []) (b := g 0) ⟨hx, hb, hml, hown, ht⟩ cl_Law_73 (c_DeviceSets_equal l G g cx.nd cx.ns cx.nb cx.nT cx.fI cx.fL cx.nC cx.gI cx.gL cx.dl cx.df cx.dm cx.dk cx.so cx.sh cx.sv (xs (i + 1)) (xs (i + 2)) hd hs hn hc (fun d h => (hm d h).2)) hK ⟨sys_x hSP, sys_t hSP, sys_c hSP, sys_d hSP, sys_s hSP⟩ (va_recv hK.1 (sys_x hSP) (ci := 0) (q0 := 0) rfl rfl) rfl nm_DeviceSets_equal rfl rfl ⟨Nat.le_of_ble_eq_true rfl, Nat.le_of_ble_eq_true rfl⟩ hl.1 (Nat.le_of_ble_eq_true rfl) d_Law_law_979 ⟨hrc, hrs⟩)) (fun r9 hr9 => ?_)
  subst hr9
  refine lv_aload_n hx hb d_Law_law_982 rfl (lv_at hl 1 rfl) ?_
  refine lv_aload_n hx hb d_Law_law_983 rfl (lv_at hl 3 rfl) ?_
  refine lv_iload_n hx hb d_Law_law_984 rfl (lv_at hl 0 rfl) ?_
  refine lv_iconst (v := 1) hx hb d_Law_law_985 (by decide) ?_
  refine lv_iadd hx hb d_Law_law_986 ?_
  refine sy_ti (y := nI (i + 1)) (nI_add i 1) ?_
  refine va_sld hx hb hX hbl hbA hS (vp_in_nI (n := i + 1) (by omega) (by omega)) d_Law_law_987 ?_
  refine sy_ti (y := xs (i + 1)) (by rw [nI_clamp (by omega)]) ?_
  refine lv_aload_n hx hb d_Law_law_988 rfl (lv_at hl 3 rfl) ?_
  refine lv_iload_n hx hb d_Law_law_989 rfl (lv_at hl 0 rfl) ?_
  refine lv_iconst (v := 2) hx hb d_Law_law_990 (by decide) ?_
  refine lv_iadd hx hb d_Law_law_991 ?_
  refine sy_ti (y := nI (i + 2)) (nI_add i 2) ?_
  refine va_sld hx hb hX hbl hbA hS (vp_in_nI (n := i + 2) (by omega) (by omega)) d_Law_law_992 ?_
  refine sy_ti (y := xs (i + 2)) (by rw [nI_clamp (by omega)]) ?_
  refine vp_callSi (va_Run.run (sy_runV (As := [.int (xs (i + 1)), .int (xs (i + 2))]) (rest := [.int (bI (xm_equal cx.ns cx.sh (xs (i + 1)) (xs (i + 2))))]) (b := ob) ⟨hx, hb, hml, hown, ht⟩ cl_Law_77 (c_Model_equal l G ob ad sc mI mL mZ (xs (i + 1)) (xs (i + 2)) (by omega)) hK hM (va_recv hK.1 hM (ci := 7) (q0 := 0) rfl rfl) rfl nm_Model_equal rfl rfl ⟨Nat.le_of_ble_eq_true rfl, Nat.le_of_ble_eq_true rfl⟩ hl.1 (Nat.le_of_ble_eq_true rfl) d_Law_law_993 ⟨hrc, hrs⟩)) (fun r9 hr9 => ?_)
  subst hr9
  have hE9 := e_equal hR (xs (i + 1)) (xs (i + 2))
  refine lv_icmp_eq (tgt := 1384) hx hb d_Law_law_996 (by decide) (fun c_1 => ?_) (fun c_1 => ?_)
  · have c_1 := bI_i c_1
    exact kk g cx sc mI mL mZ _ _ rfl ⟨hSP, hSD, hM, hMD, hap, hS, hR, by omega⟩
  · have c_1 : ¬ (xm_equal cx.ns cx.sh (xs (i + 1)) (xs (i + 2))) = (mo_equal sc mL mZ (xs (i + 1)) (xs (i + 2))) := fun h9 => c_1 (by rw [h9])
    exact absurd hE9 c_1
set_option maxHeartbeats 4000000 in
set_option maxRecDepth 100000 in
theorem law_c13 {p : Program} {l : Launch} {e : Env} {s : State} {m : MethodId} {below : List Frame} {meth : Method} {c : Code} {b L : Nat} {xs : Nat → Int32} (hL : L ≤ 5632) (C0 : lw_At p s m meth c b L xs) {G : sy_G} (hK : sy_K G s) {g : Nat → Nat} {cx : cs} {ob : Nat} {ad : Nat → Nat} {sc : Nat → Nat} {mI : Nat → Nat → Int32} {mL : Nat → Nat → Int64} {mZ : Nat → Nat → Bool} {H : Heap} {locs : List Loc} {i : Nat} (hi : i + 11 ≤ L) {Q : State → Prop} (hLW : LW s G g cx ob ad sc mI mL mZ i H locs) {ls : Array Slot} (hl : lv_has ls 4 [(3, .int (nI i)), (2, .ref ob), (1, .ref (g 0)), (0, .ref b)])
    (kk : ∀ (g9 : Nat → Nat) (cx9 : cs) (sc9 : Nat → Nat) (mI9 : Nat → Nat → Int32) (mL9 : Nat → Nat → Int64) (mZ9 : Nat → Nat → Bool) (H9 : Heap) (locs9 : List Loc), g9 0 = g 0 → LW s G g9 cx9 ob ad sc9 mI9 mL9 mZ9 (i + 1) H9 locs9 → W p l e room_1 s m #[Value.ref b] below meth c H9 locs9 (fc cx9) (fs cx9) Q (F0 m 1384 ls [])) :
    W p l e room_1 s m #[Value.ref b] below meth c H locs (fc cx) (fs cx) Q (F0 m 1001 ls []) := by
  obtain ⟨hx, hb, hr, hml, hown0, hts, hX, hbl, hlocks, hgv⟩ := C0
  obtain ⟨hSP, hSD, hM, hMD, hap, hS, hR, h4n⟩ := hLW
  have hown : s.vm.findClass R_Law = some m.cls := hown0
  have ht : ∀ wd ∈ sy_T, wd.before #[Value.ref b] s = true := fun wd h => hts wd (List.mem_filter.mp h).1
  have hbA : ¬ (fun q : Nat => s.heap.size ≤ q) b := Nat.not_le.mpr hbl
  have e0 := hR.s0
  have e1 := hR.s1
  have e2 := hR.s2
  have e3 := hR.s3
  have e4 := hR.s4
  have b0 := hR.b0
  have b1 := hR.b1
  have b2 := hR.b2
  have b3 := hR.b3
  have hcb : cs_b cx := cs_bR hR (by omega)
  obtain ⟨hd, hs, hn, hc, hm, hb4⟩ := id hcb
  have hrc : fc cx + 0 ≤ room_1.cells := by show _ ≤ 600000; unfold fc; omega
  have hrs : fs cx + 0 ≤ room_1.slots := by show _ ≤ 7302250; unfold fs; omega
  refine lv_aload_n hx hb d_Law_law_1001 rfl (lv_at hl 2 rfl) ?_
  refine lv_aload_n hx hb d_Law_law_1002 rfl (lv_at hl 3 rfl) ?_
  refine lv_iload_n hx hb d_Law_law_1003 rfl (lv_at hl 0 rfl) ?_
  refine lv_iconst (v := 1) hx hb d_Law_law_1004 (by decide) ?_
  refine lv_iadd hx hb d_Law_law_1005 ?_
  refine sy_ti (y := nI (i + 1)) (nI_add i 1) ?_
  refine va_sld hx hb hX hbl hbA hS (vp_in_nI (n := i + 1) (by omega) (by omega)) d_Law_law_1006 ?_
  refine sy_ti (y := xs (i + 1)) (by rw [nI_clamp (by omega)]) ?_
  refine va_calli (sy_runV (As := [.int (xs (i + 1))]) (rest := []) (b := g 0) ⟨hx, hb, hml, hown, ht⟩ cl_Law_78 (s_batch l G g cx hcb (xs (i + 1))) hK ⟨hSP, ss_anyD hSD⟩ (va_recv hK.1 (sys_x hSP) (ci := 0) (q0 := 0) rfl rfl) rfl nm_DeviceSets_batch rfl rfl ⟨Nat.le_of_ble_eq_true rfl, Nat.le_of_ble_eq_true rfl⟩ hl.1 (Nat.le_of_ble_eq_true rfl) d_Law_law_1007 ⟨hrc, hrs⟩) hS (fun q _ h => ss_in hSD h) (fun q h => ss_in hSD h) (fun r9 u9 t9 H9 locs ht9 hvm9 hw9 hB9 hz9 hk9 hS => ?_)
  obtain ⟨hr9, hu9⟩ := hw9
  subst hr9
  subst hu9
  rw [ht9] at hB9
  have hM : va_P G.1 classes (mw G.2 ob ad sc mI mL mZ) H9 := lx_M hM hap hk9
  have hxa : ∀ i9 : sid, (sy_cell G.2 g (x_batch cx (xs (i + 1))).2 i9).map Prod.fst = (sy_cell G.2 g cx i9).map Prod.fst := fun i9 => xa_batch i9
  have hSP : sys_P G g (x_batch cx (xs (i + 1))).2 H9 := hB9
  have hSD : sys_D (fun q => s.heap.size ≤ q) G g (x_batch cx (xs (i + 1))).2 := ss_setD hSD hxa
  have hap : ∀ q, sys_A G g (x_batch cx (xs (i + 1))).2 q → ¬ sy_A (mw G.2 ob ad sc mI mL mZ) q := fun q h => hap q (ss_Aa hxa h)
  generalize H9 = H at hSP hM hS ⊢
  have hf9 : fc (x_batch cx (xs (i + 1))).2 = fc cx ∧ fs (x_batch cx (xs (i + 1))).2 = fs cx := f_batch
  refine lv_aload_n hx hb d_Law_law_1010 rfl (lv_at hl 1 rfl) ?_
  refine lv_aload_n hx hb d_Law_law_1011 rfl (lv_at hl 3 rfl) ?_
  refine lv_iload_n hx hb d_Law_law_1012 rfl (lv_at hl 0 rfl) ?_
  refine lv_iconst (v := 1) hx hb d_Law_law_1013 (by decide) ?_
  refine lv_iadd hx hb d_Law_law_1014 ?_
  refine sy_ti (y := nI (i + 1)) (nI_add i 1) ?_
  refine va_sld hx hb hX hbl hbA hS (vp_in_nI (n := i + 1) (by omega) (by omega)) d_Law_law_1015 ?_
  refine sy_ti (y := xs (i + 1)) (by rw [nI_clamp (by omega)]) ?_
  refine va_calli (sy_runV (As := [.int (xs (i + 1))]) (rest := [.int ((x_batch cx (xs (i + 1))).1)]) (b := ob) ⟨hx, hb, hml, hown, ht⟩ cl_Law_81 (c_Model_batch l G ob ad sc mI mL mZ (xs (i + 1)) (by omega) (by omega)) hK ⟨hM, sy_any hMD⟩ (va_recv hK.1 hM (ci := 7) (q0 := 0) rfl rfl) rfl nm_Model_batch rfl rfl ⟨Nat.le_of_ble_eq_true rfl, Nat.le_of_ble_eq_true rfl⟩ hl.1 (Nat.le_of_ble_eq_true rfl) d_Law_law_1016 ⟨hrc, hrs⟩) hS (fun q _ h => sy_in hMD h) (fun q h => sy_in hMD h) (fun r9 u9 t9 H9 locs ht9 hvm9 hw9 hB9 hz9 hk9 hS => ?_)
  obtain ⟨hr9, hu9⟩ := hw9
  subst hr9
  subst hu9
  rw [ht9] at hB9
  have hSP : sys_P G g (x_batch cx (xs (i + 1))).2 H9 := lx_S hSP hap hk9
  have hM : va_P G.1 classes (mw G.2 ob ad (mo_batch sc mI mL mZ (xs (i + 1))).2.1 (mo_batch sc mI mL mZ (xs (i + 1))).2.2.1 (mo_batch sc mI mL mZ (xs (i + 1))).2.2.2.1 (mo_batch sc mI mL mZ (xs (i + 1))).2.2.2.2) H9 := hB9
  have hMD : va_D (fun q => s.heap.size ≤ q) (mw G.2 ob ad (mo_batch sc mI mL mZ (xs (i + 1))).2.1 (mo_batch sc mI mL mZ (xs (i + 1))).2.2.1 (mo_batch sc mI mL mZ (xs (i + 1))).2.2.2.1 (mo_batch sc mI mL mZ (xs (i + 1))).2.2.2.2) := sy_Da hMD rfl
  have hap : ∀ q, sys_A G g (x_batch cx (xs (i + 1))).2 q → ¬ sy_A (mw G.2 ob ad (mo_batch sc mI mL mZ (xs (i + 1))).2.1 (mo_batch sc mI mL mZ (xs (i + 1))).2.2.1 (mo_batch sc mI mL mZ (xs (i + 1))).2.2.2.1 (mo_batch sc mI mL mZ (xs (i + 1))).2.2.2.2) q := fun q h h2 => hap q h (sy_Aa (ws := mw G.2 ob ad sc mI mL mZ) (ws' := mw G.2 ob ad (mo_batch sc mI mL mZ (xs (i + 1))).2.1 (mo_batch sc mI mL mZ (xs (i + 1))).2.2.1 (mo_batch sc mI mL mZ (xs (i + 1))).2.2.2.1 (mo_batch sc mI mL mZ (xs (i + 1))).2.2.2.2) rfl h2)
  generalize H9 = H at hSP hM hS ⊢
  have hE := e_batch hR hcb.2.2.2.2.2 (xs (i + 1))
  have hE9 := hE.1
  have hR := hE.2
  have hq4 : (mo_batch sc mI mL mZ (xs (i + 1))).2.1 4 ≤ sc 4 + 1 := q_batch
  refine lv_icmp_eq (tgt := 1384) hx hb d_Law_law_1019 (by decide) (fun c_1 => ?_) (fun c_1 => ?_)
  · rw [← hf9.1, ← hf9.2]
    exact kk g (x_batch cx (xs (i + 1))).2 (mo_batch sc mI mL mZ (xs (i + 1))).2.1 (mo_batch sc mI mL mZ (xs (i + 1))).2.2.1 (mo_batch sc mI mL mZ (xs (i + 1))).2.2.2.1 (mo_batch sc mI mL mZ (xs (i + 1))).2.2.2.2 _ _ rfl ⟨hSP, hSD, hM, hMD, hap, hS, hR, by omega⟩
  · exact absurd hE9 c_1
