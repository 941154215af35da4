set_option maxHeartbeats 4000000 in
set_option maxRecDepth 100000 in
theorem c_Long_bitCount (l : Launch) (G : sy_G) (x : Int64) : Met l y_Long_bitCount (sy_w y_Long_bitCount b_Long_bitCount 2 (some .int)) { frames := 0, cells := 0, slots := 0, locals := 0 } (va_Pc [.long x] (sy_KP G (fun _ => True))) (vp_Si (fun r => r = lb_pc x)) 0 0 (fun _ => False) := by
  refine Met.ofW (cc := b_Long_bitCount) (maxL := 2) (ret := (some .int)) (by decide) rfl ?_
  intro p e s m args below meth c s₁ B hml hv
  obtain ⟨rfl, hP, hK⟩ := hv
  have hx := B.exec
  have hb := B.bytes
  have hr := B.returns
  have hts := atoms_spec (ws := sy_w y_Long_bitCount b_Long_bitCount 2 (some .int)) B.pre
  have ht : ∀ wd ∈ sy_T, wd.before ([.long x] : List Value).toArray s = true := fun wd h => hts wd (List.mem_cons_of_mem _ h)
  have hown : s.vm.findClass R_Long = some m.cls := findClass_of_methodNamed B.named
  have hlocks := B.notSynchronized
  have hl := lv_entry ([.long x]) (n := 2) (Nat.le_of_ble_eq_true rfl)
  rw [lg_entry_eq]
  generalize (lg_sl ([.long x]) ++ List.replicate (2 - (lg_sl ([.long x])).length) Slot.unset).toArray = ls at hl ⊢
  have hl : lv_has ls 2 [(0, .long x)] := hl
  refine lv_lload_n hx hb d_Long_bitCount_0 rfl (lv_at hl 0 rfl) ?_
  refine lv_lload_n hx hb d_Long_bitCount_1 rfl (lv_at hl 0 rfl) ?_
  refine lv_iconst (v := 1) hx hb d_Long_bitCount_2 (by decide) ?_
  refine lv_lushr (v := (x.toUInt64 >>> ((1 : Int32).toInt64.toUInt64 &&& Int64.toUInt64 63)).toInt64) hx hb d_Long_bitCount_3 rfl ?_
  refine lv_ldc2 (v := 6148914691236517205) hx hb hown (ht _ m_307) d_Long_bitCount_4 ?_
  refine lv_land hx hb d_Long_bitCount_7 ?_
  refine lv_lsub hx hb d_Long_bitCount_8 ?_
  refine lv_topl (fun y_1 ey_1 => ?_)
  refine lv_lstore_n (lv' := [(0, .long y_1)]) hx hb d_Long_bitCount_9 rfl hl (by decide) rfl (fun ls hl => ?_)
  refine lv_lload_n hx hb d_Long_bitCount_10 rfl (lv_at hl 0 rfl) ?_
  refine lv_ldc2 (v := 3689348814741910323) hx hb hown (ht _ m_308) d_Long_bitCount_11 ?_
  refine lv_land hx hb d_Long_bitCount_14 ?_
  refine lv_lload_n hx hb d_Long_bitCount_15 rfl (lv_at hl 0 rfl) ?_
  refine lv_iconst (v := 2) hx hb d_Long_bitCount_16 (by decide) ?_
  refine lv_lushr (v := (y_1.toUInt64 >>> ((2 : Int32).toInt64.toUInt64 &&& Int64.toUInt64 63)).toInt64) hx hb d_Long_bitCount_17 rfl ?_
  refine lv_ldc2 (v := 3689348814741910323) hx hb hown (ht _ m_308) d_Long_bitCount_18 ?_
  refine lv_land hx hb d_Long_bitCount_21 ?_
  refine lv_ladd hx hb d_Long_bitCount_22 ?_
  refine lv_topl (fun y_2 ey_2 => ?_)
  refine lv_lstore_n (lv' := [(0, .long y_2)]) hx hb d_Long_bitCount_23 rfl hl (by decide) rfl (fun ls hl => ?_)
  refine lv_lload_n hx hb d_Long_bitCount_24 rfl (lv_at hl 0 rfl) ?_
  refine lv_lload_n hx hb d_Long_bitCount_25 rfl (lv_at hl 0 rfl) ?_
  refine lv_iconst (v := 4) hx hb d_Long_bitCount_26 (by decide) ?_
  refine lv_lushr (v := (y_2.toUInt64 >>> ((4 : Int32).toInt64.toUInt64 &&& Int64.toUInt64 63)).toInt64) hx hb d_Long_bitCount_27 rfl ?_
  refine lv_ladd hx hb d_Long_bitCount_28 ?_
  refine lv_ldc2 (v := 1085102592571150095) hx hb hown (ht _ m_309) d_Long_bitCount_29 ?_
  refine lv_land hx hb d_Long_bitCount_32 ?_
  refine lv_topl (fun y_3 ey_3 => ?_)
  refine lv_lstore_n (lv' := [(0, .long y_3)]) hx hb d_Long_bitCount_33 rfl hl (by decide) rfl (fun ls hl => ?_)
  refine lv_lload_n hx hb d_Long_bitCount_34 rfl (lv_at hl 0 rfl) ?_
  refine lv_lload_n hx hb d_Long_bitCount_35 rfl (lv_at hl 0 rfl) ?_
  refine lv_bipush (v := 8) hx hb d_Long_bitCount_36 (by decide) ?_
  refine lv_lushr (v := (y_3.toUInt64 >>> ((8 : Int32).toInt64.toUInt64 &&& Int64.toUInt64 63)).toInt64) hx hb d_Long_bitCount_38 rfl ?_
  refine lv_ladd hx hb d_Long_bitCount_39 ?_
  refine lv_topl (fun y_4 ey_4 => ?_)
  refine lv_lstore_n (lv' := [(0, .long y_4)]) hx hb d_Long_bitCount_40 rfl hl (by decide) rfl (fun ls hl => ?_)
  refine lv_lload_n hx hb d_Long_bitCount_41 rfl (lv_at hl 0 rfl) ?_
  refine lv_lload_n hx hb d_Long_bitCount_42 rfl (lv_at hl 0 rfl) ?_
  refine lv_bipush (v := 16) hx hb d_Long_bitCount_43 (by decide) ?_
  refine lv_lushr (v := (y_4.toUInt64 >>> ((16 : Int32).toInt64.toUInt64 &&& Int64.toUInt64 63)).toInt64) hx hb d_Long_bitCount_45 rfl ?_
  refine lv_ladd hx hb d_Long_bitCount_46 ?_
  refine lv_topl (fun y_5 ey_5 => ?_)
  refine lv_lstore_n (lv' := [(0, .long y_5)]) hx hb d_Long_bitCount_47 rfl hl (by decide) rfl (fun ls hl => ?_)
  refine lv_lload_n hx hb d_Long_bitCount_48 rfl (lv_at hl 0 rfl) ?_
  refine lv_lload_n hx hb d_Long_bitCount_49 rfl (lv_at hl 0 rfl) ?_
  refine lv_bipush (v := 32) hx hb d_Long_bitCount_50 (by decide) ?_
  refine lv_lushr (v := (y_5.toUInt64 >>> ((32 : Int32).toInt64.toUInt64 &&& Int64.toUInt64 63)).toInt64) hx hb d_Long_bitCount_52 rfl ?_
  refine lv_ladd hx hb d_Long_bitCount_53 ?_
  refine lv_topl (fun y_6 ey_6 => ?_)
  refine lv_lstore_n (lv' := [(0, .long y_6)]) hx hb d_Long_bitCount_54 rfl hl (by decide) rfl (fun ls hl => ?_)
  refine lv_lload_n hx hb d_Long_bitCount_55 rfl (lv_at hl 0 rfl) ?_
  refine lv_l2i (v := y_6.toInt32) hx hb d_Long_bitCount_56 rfl ?_
  refine lv_bipush (v := 127) hx hb d_Long_bitCount_57 (by decide) ?_
  refine lv_iand hx hb d_Long_bitCount_59 ?_
  exact W.iret (v := y_6.toInt32 &&& 127) hx hb hr (fun t ht hW => ⟨y_6.toInt32 &&& 127, rfl, by subst_vars; rfl, ht⟩) (fun q h => by cases h) d_Long_bitCount_60
set_option maxHeartbeats 4000000 in
set_option maxRecDepth 100000 in
theorem c_DeviceSets_commonDivisor (l : Launch) (G : sy_G) (a : Int64) (b : Int64) : Met l y_DeviceSets_commonDivisor (sy_w y_DeviceSets_commonDivisor b_DeviceSets_commonDivisor 11 (some .long)) { frames := 0, cells := 0, slots := 0, locals := 0 } (va_Pc [.long a, .long b] (sy_KP G (fun _ => True))) (vp_Sl (fun r => r = cd_f 100 a b)) 0 0 (fun _ => False) := by
  refine Met.ofW (cc := b_DeviceSets_commonDivisor) (maxL := 11) (ret := (some .long)) (by decide) rfl ?_
  intro p e s m args below meth c s₁ B hml hv
  obtain ⟨rfl, hP, hK⟩ := hv
  have hx := B.exec
  have hb := B.bytes
  have hr := B.returns
  have hts := atoms_spec (ws := sy_w y_DeviceSets_commonDivisor b_DeviceSets_commonDivisor 11 (some .long)) B.pre
  have ht : ∀ wd ∈ sy_T, wd.before ([.long a, .long b] : List Value).toArray s = true := fun wd h => hts wd (List.mem_cons_of_mem _ h)
  have hown : s.vm.findClass R_DeviceSets = some m.cls := findClass_of_methodNamed B.named
  have hlocks := B.notSynchronized
  have hl := lv_entry ([.long a, .long b]) (n := 11) (Nat.le_of_ble_eq_true rfl)
  rw [lg_entry_eq]
  generalize (lg_sl ([.long a, .long b]) ++ List.replicate (11 - (lg_sl ([.long a, .long b])).length) Slot.unset).toArray = ls at hl ⊢
  have hl : lv_has ls 11 [(0, .long a), (2, .long b)] := hl
  refine lv_lload_n hx hb d_DeviceSets_commonDivisor_0 rfl (lv_at hl 0 rfl) ?_
  refine lv_lstore (lv' := [(4, .long a), (0, .long a), (2, .long b)]) hx hb d_DeviceSets_commonDivisor_1 hl (by decide) rfl (fun ls hl => ?_)
  refine lv_lload_n hx hb d_DeviceSets_commonDivisor_3 rfl (lv_at hl 2 rfl) ?_
  refine lv_lstore (lv' := [(6, .long b), (4, .long a), (0, .long a), (2, .long b)]) hx hb d_DeviceSets_commonDivisor_4 hl (by decide) rfl (fun ls hl => ?_)
  refine lv_iconst (v := 0) hx hb d_DeviceSets_commonDivisor_6 (by decide) ?_
  refine lv_istore (lv' := [(8, .int 0), (6, .long b), (4, .long a), (0, .long a), (2, .long b)]) hx hb d_DeviceSets_commonDivisor_7 hl (by decide) rfl (fun ls hl => ?_)
  refine sy_loop (σ := Nat × Int64 × Int64) (nL := 11) (fun x9 => match x9 with | (k, u, v) => 100 - k) (fun x9 => match x9 with | (k, u, v) => [(8, .int (nI k)), (4, .long u), (6, .long v)]) (fun x9 => match x9 with | (k, u, v) => k ≤ 100 ∧ cd_f (100 - k) u v = cd_f 100 a b) ?_ (0, a, b) ?_ (lv_sub hl [0, 2, 1] rfl)
  · intro x9 ls hI hl ih9
    obtain ⟨k, u, v⟩ := x9
    have hl : lv_has ls 11 [(8, .int (nI k)), (4, .long u), (6, .long v)] := hl
    obtain ⟨hk, hI⟩ := hI
    refine lv_iload hx hb d_DeviceSets_commonDivisor_9 (lv_at hl 0 rfl) ?_
    refine lv_bipush (v := 100) hx hb d_DeviceSets_commonDivisor_11 (by decide) ?_
    refine lv_icmp_ge (tgt := 44) hx hb d_DeviceSets_commonDivisor_13 (by decide) (fun c_1 => ?_) (fun c_1 => ?_)
    · have c_1 : 100 ≤ k := (nI_leI (a := 100) (b := k) (by omega) (by omega)).mp c_1
      have c_1n : ¬ k < 100 := by omega
      refine lv_lload hx hb d_DeviceSets_commonDivisor_44 (lv_at hl 1 rfl) ?_
      exact W.lret (v := u) hx hb hr (fun t ht hW => ⟨u, rfl, by rw [← hI]; first | (rw [show 100 - k = 0 by omega]; rfl) | (rw [show 100 - k = (100 - (k + 1)) + 1 by omega, cd_f, if_pos c_1n]), ht⟩) (fun q h => by cases h) d_DeviceSets_commonDivisor_46
    · have c_1 : ¬ 100 ≤ k := fun h9 => c_1 ((nI_leI (a := 100) (b := k) (by omega) (by omega)).mpr h9)
      have c_1n : k < 100 := by omega
      refine lv_lload hx hb d_DeviceSets_commonDivisor_16 (lv_at hl 2 rfl) ?_
      refine lv_lconst (v := 0) hx hb d_DeviceSets_commonDivisor_18 (by decide) ?_
      refine sy_lc_eq (tgt := 44) hx hb d_DeviceSets_commonDivisor_19 d_DeviceSets_commonDivisor_20 (by decide) (fun c_2 => ?_) (fun c_2 => ?_)
      · refine lv_lload hx hb d_DeviceSets_commonDivisor_44 (lv_at hl 1 rfl) ?_
        exact W.lret (v := u) hx hb hr (fun t ht hW => ⟨u, rfl, by rw [← hI]; first | (rw [show 100 - k = 0 by omega]; rfl) | (rw [show 100 - k = (100 - (k + 1)) + 1 by omega, cd_f, if_pos c_2]), ht⟩) (fun q h => by cases h) d_DeviceSets_commonDivisor_46
      · refine lv_lload hx hb d_DeviceSets_commonDivisor_23 (lv_at hl 1 rfl) ?_
        refine lv_lload hx hb d_DeviceSets_commonDivisor_25 (lv_at hl 2 rfl) ?_
        refine lv_lrem hx hb d_DeviceSets_commonDivisor_27 (by assumption) ?_
        refine lv_lstore (lv' := [(9, .long (u - u / v * v)), (8, .int (nI k)), (4, .long u), (6, .long v)]) hx hb d_DeviceSets_commonDivisor_28 hl (by decide) rfl (fun ls hl => ?_)
        refine lv_lload hx hb d_DeviceSets_commonDivisor_30 (lv_at hl 3 rfl) ?_
        refine lv_lstore (lv' := [(4, .long v), (9, .long (u - u / v * v)), (8, .int (nI k)), (6, .long v)]) hx hb d_DeviceSets_commonDivisor_32 hl (by decide) rfl (fun ls hl => ?_)
        refine lv_lload hx hb d_DeviceSets_commonDivisor_34 (lv_at hl 1 rfl) ?_
        refine lv_lstore (lv' := [(6, .long (u - u / v * v)), (4, .long v), (9, .long (u - u / v * v)), (8, .int (nI k))]) hx hb d_DeviceSets_commonDivisor_36 hl (by decide) rfl (fun ls hl => ?_)
        refine lv_iinc (v := nI (k + 1)) (lv' := [(8, .int (nI (k + 1))), (6, .long (u - u / v * v)), (4, .long v), (9, .long (u - u / v * v))]) hx hb d_DeviceSets_commonDivisor_38 hl (k := 3) rfl (nI_add k 1) (by decide) rfl (fun ls hl => ?_)
        refine lv_goto (tgt := 9) hx hb d_DeviceSets_commonDivisor_41 (by decide) ?_
        refine ih9 (k + 1, v, u - u / v * v) ls (show 100 - (k + 1) < 100 - k by omega) ?_ (lv_sub hl [0, 2, 1] rfl)
        exact ⟨by omega, by rw [show 100 - k = (100 - (k + 1)) + 1 by omega, cd_f, if_neg c_2] at hI; exact hI⟩
  · exact ⟨Nat.zero_le _, rfl⟩
set_option maxHeartbeats 4000000 in
set_option maxRecDepth 100000 in
theorem c_Tellings_missingNumber (l : Launch) (G : sy_G) (h0 : Nat) (ad : Nat → Nat) (n : Nat) (fI : Nat → Nat → Int32) (fL : Nat → Nat → Int64) (am : Int64) (pl : Int32) (hn : n ≤ 60) : Met l y_Tellings_missingNumber (sy_w y_Tellings_missingNumber b_Tellings_missingNumber 11 (some .int)) { frames := 3, cells := 0, slots := 0, locals := 68 } (va_Pc [.ref h0, .long am, .int pl] (sy_KP G (va_P G.1 classes (tw G.2 h0 ad n fI fL)))) (vp_Si (fun r => r = tl_miss fI n am pl)) 0 0 (fun _ => False) := by
  refine Met.ofW (cc := b_Tellings_missingNumber) (maxL := 11) (ret := (some .int)) (by decide) rfl ?_
  intro p e s m args below meth c s₁ B hml hv
  obtain ⟨rfl, hP, hK⟩ := hv
  have hx := B.exec
  have hb := B.bytes
  have hr := B.returns
  have hts := atoms_spec (ws := sy_w y_Tellings_missingNumber b_Tellings_missingNumber 11 (some .int)) B.pre
  have ht : ∀ wd ∈ sy_T, wd.before ([.ref h0, .long am, .int pl] : List Value).toArray s = true := fun wd h => hts wd (List.mem_cons_of_mem _ h)
  have hown : s.vm.findClass R_Tellings = some m.cls := findClass_of_methodNamed B.named
  have hlocks := B.notSynchronized
  have hl := lv_entry ([.ref h0, .long am, .int pl]) (n := 11) (Nat.le_of_ble_eq_true rfl)
  rw [lg_entry_eq]
  generalize (lg_sl ([.ref h0, .long am, .int pl]) ++ List.replicate (11 - (lg_sl ([.ref h0, .long am, .int pl])).length) Slot.unset).toArray = ls at hl ⊢
  have hl : lv_has ls 11 [(0, .ref h0), (1, .long am), (3, .int pl)] := hl
  refine lv_aload_n hx hb d_Tellings_missingNumber_0 rfl (lv_at hl 0 rfl) ?_
  refine lv_lload_n hx hb d_Tellings_missingNumber_1 rfl (lv_at hl 1 rfl) ?_
  refine vp_callSl (va_Run.run (sy_runV (As := [.long am]) (rest := []) (b := h0) ⟨hx, hb, hml, hown, ht⟩ cl_Tellings_67 (c_Tellings_ofGreatestLife l G h0 ad n fI fL am (by omega)) hK hP (va_recv hK.1 hP (ci := 5) (q0 := 0) rfl rfl) rfl nm_Tellings_ofGreatestLife rfl rfl ⟨Nat.le_of_ble_eq_true rfl, Nat.le_of_ble_eq_true rfl⟩ hl.1 (Nat.le_of_ble_eq_true rfl) d_Tellings_missingNumber_2 ⟨Nat.zero_le _, Nat.zero_le _⟩)) (fun r_1 hr_1 => ?_)
  subst hr_1
  refine lv_lstore (lv' := [(4, .long ((tl_gl fI am n).2)), (0, .ref h0), (1, .long am), (3, .int pl)]) hx hb d_Tellings_missingNumber_5 hl (by decide) rfl (fun ls hl => ?_)
  refine lv_iload_n hx hb d_Tellings_missingNumber_7 rfl (lv_at hl 3 rfl) ?_
  refine lv_istore (lv' := [(6, .int pl), (4, .long ((tl_gl fI am n).2)), (0, .ref h0), (1, .long am), (3, .int pl)]) hx hb d_Tellings_missingNumber_8 hl (by decide) rfl (fun ls hl => ?_)
  refine lv_aload_n hx hb d_Tellings_missingNumber_10 rfl (lv_at hl 2 rfl) ?_
  refine lv_lload hx hb d_Tellings_missingNumber_11 (lv_at hl 1 rfl) ?_
  refine lv_iconst (v := (-1)) hx hb d_Tellings_missingNumber_13 (by decide) ?_
  refine vp_callSi (va_Run.run (sy_runV (As := [.long ((tl_gl fI am n).2), .int (-1)]) (rest := []) (b := h0) ⟨hx, hb, hml, hown, ht⟩ cl_Tellings_71 (c_Tellings_nextNumber l G h0 ad n fI fL ((tl_gl fI am n).2) (-1 : Int32) (by omega)) hK hP (va_recv hK.1 hP (ci := 5) (q0 := 0) rfl rfl) rfl nm_Tellings_nextNumber rfl rfl ⟨Nat.le_of_ble_eq_true rfl, Nat.le_of_ble_eq_true rfl⟩ hl.1 (Nat.le_of_ble_eq_true rfl) d_Tellings_missingNumber_14 ⟨Nat.zero_le _, Nat.zero_le _⟩)) (fun r_2 hr_2 => ?_)
  subst hr_2
  refine lv_istore (lv' := [(7, .int (tl_nx fI ((tl_gl fI am n).2) (-1 : Int32) n)), (6, .int pl), (4, .long ((tl_gl fI am n).2)), (0, .ref h0), (1, .long am), (3, .int pl)]) hx hb d_Tellings_missingNumber_17 hl (by decide) rfl (fun ls hl => ?_)
  refine lv_iconst (v := 0) hx hb d_Tellings_missingNumber_19 (by decide) ?_
  refine lv_istore (lv' := [(8, .int 0), (7, .int (tl_nx fI ((tl_gl fI am n).2) (-1 : Int32) n)), (6, .int pl), (4, .long ((tl_gl fI am n).2)), (0, .ref h0), (1, .long am), (3, .int pl)]) hx hb d_Tellings_missingNumber_20 hl (by decide) rfl (fun ls hl => ?_)
  refine sy_loop (σ := Nat × Int32 × Int32) (nL := 11) (fun x22 => match x22 with | (k, rs, he) => n - k) (fun x22 => match x22 with | (k, rs, he) => [(8, .int (nI k)), (6, .int rs), (7, .int he), (4, .long ((tl_gl fI am n).2)), (0, .ref h0)]) (fun x22 => match x22 with | (k, rs, he) => k ≤ n ∧ tl_ms fI (tl_gl fI am n).2 n (n - k) rs he = tl_ms fI (tl_gl fI am n).2 n n pl (tl_nx fI (tl_gl fI am n).2 (-1) n)) ?_ (0, pl, tl_nx fI ((tl_gl fI am n).2) (-1 : Int32) n) ?_ (lv_sub hl [0, 2, 1, 3, 4] rfl)
  · intro x22 ls hI hl ih22
    obtain ⟨k, rs, he⟩ := x22
    have hl : lv_has ls 11 [(8, .int (nI k)), (6, .int rs), (7, .int he), (4, .long ((tl_gl fI am n).2)), (0, .ref h0)] := hl
    obtain ⟨hk, hI⟩ := hI
    refine lv_iload hx hb d_Tellings_missingNumber_22 (lv_at hl 0 rfl) ?_
    refine lv_aload_n hx hb d_Tellings_missingNumber_24 rfl (lv_at hl 4 rfl) ?_
    refine va_get (D := G.1) (ci := 5) (v := .int (nI n)) (C := R_Tellings) (T := F_Tellings) (N := 8) hx hb ht i_Tellings hown hK.1 hP 0 rfl rfl 7 (by decide) (ht _ m_67) (fun _ h9 => h9) rfl d_Tellings_missingNumber_25 ?_
    refine lv_icmp_ge (tgt := 96) hx hb d_Tellings_missingNumber_28 (by decide) (fun c_3 => ?_) (fun c_3 => ?_)
    · have c_3 : n ≤ k := (nI_leI (a := n) (b := k) (by omega) (by omega)).mp c_3
      have c_3n : ¬ k < n := by omega
      refine lv_iconst (v := (-1)) hx hb d_Tellings_missingNumber_96 (by decide) ?_
      exact W.iret (v := (-1 : Int32)) hx hb hr (fun t ht hW => ⟨(-1 : Int32), rfl, by rw [tl_miss, ← hI]; first | (rw [show n - k = 0 by omega]; rfl) | (rw [show n - k = (n - (k + 1)) + 1 by omega, tl_ms]; simp [c_3, c_3n]; done), ht⟩) (fun q h => by cases h) d_Tellings_missingNumber_97
    · have c_3 : ¬ n ≤ k := fun h9 => c_3 ((nI_leI (a := n) (b := k) (by omega) (by omega)).mpr h9)
      have c_3n : k < n := by omega
      refine lv_iload hx hb d_Tellings_missingNumber_31 (lv_at hl 2 rfl) ?_
      refine lv_iconst (v := (-1)) hx hb d_Tellings_missingNumber_33 (by decide) ?_
      refine lv_icmp_eq (tgt := 96) hx hb d_Tellings_missingNumber_34 (by decide) (fun c_4 => ?_) (fun c_4 => ?_)
      · refine lv_iconst (v := (-1)) hx hb d_Tellings_missingNumber_96 (by decide) ?_
        exact W.iret (v := (-1 : Int32)) hx hb hr (fun t ht hW => ⟨(-1 : Int32), rfl, by rw [tl_miss, ← hI]; first | (rw [show n - k = 0 by omega]; rfl) | (rw [show n - k = (n - (k + 1)) + 1 by omega, tl_ms]; simp [c_3, c_3n, c_4]; done), ht⟩) (fun q h => by cases h) d_Tellings_missingNumber_97
      · refine lv_aload_n hx hb d_Tellings_missingNumber_37 rfl (lv_at hl 4 rfl) ?_
        refine lv_lload hx hb d_Tellings_missingNumber_38 (lv_at hl 3 rfl) ?_
        refine lv_iload hx hb d_Tellings_missingNumber_40 (lv_at hl 2 rfl) ?_
        refine vp_callSi (va_Run.run (sy_runV (As := [.long ((tl_gl fI am n).2), .int he]) (rest := []) (b := h0) ⟨hx, hb, hml, hown, ht⟩ cl_Tellings_71 (c_Tellings_nextNumber l G h0 ad n fI fL ((tl_gl fI am n).2) he (by omega)) hK hP (va_recv hK.1 hP (ci := 5) (q0 := 0) rfl rfl) rfl nm_Tellings_nextNumber rfl rfl ⟨Nat.le_of_ble_eq_true rfl, Nat.le_of_ble_eq_true rfl⟩ hl.1 (Nat.le_of_ble_eq_true rfl) d_Tellings_missingNumber_42 ⟨Nat.zero_le _, Nat.zero_le _⟩)) (fun r_5 hr_5 => ?_)
        subst hr_5
        refine lv_istore (lv' := [(9, .int (tl_nx fI ((tl_gl fI am n).2) he n)), (8, .int (nI k)), (6, .int rs), (7, .int he), (4, .long ((tl_gl fI am n).2)), (0, .ref h0)]) hx hb d_Tellings_missingNumber_45 hl (by decide) rfl (fun ls hl => ?_)
        refine lv_iload hx hb d_Tellings_missingNumber_47 (lv_at hl 0 rfl) ?_
        refine lv_iconst (v := (-1)) hx hb d_Tellings_missingNumber_49 (by decide) ?_
        refine lv_icmp_ne (tgt := 55) hx hb d_Tellings_missingNumber_50 (by decide) (fun c_6 => ?_) (fun c_6 => ?_)
        · refine lv_iload hx hb d_Tellings_missingNumber_55 (lv_at hl 0 rfl) ?_
          refine lv_iload hx hb d_Tellings_missingNumber_57 (lv_at hl 3 rfl) ?_
          refine lv_isub hx hb d_Tellings_missingNumber_59 ?_
          refine lv_iconst (v := 1) hx hb d_Tellings_missingNumber_60 (by decide) ?_
          refine lv_isub hx hb d_Tellings_missingNumber_61 ?_
          refine lv_istore (lv' := [(10, .int (((tl_nx fI ((tl_gl fI am n).2) he n) - he) - 1)), (9, .int (tl_nx fI ((tl_gl fI am n).2) he n)), (8, .int (nI k)), (6, .int rs), (7, .int he), (4, .long ((tl_gl fI am n).2)), (0, .ref h0)]) hx hb d_Tellings_missingNumber_62 hl (by decide) rfl (fun ls hl => ?_)
          refine lv_iload hx hb d_Tellings_missingNumber_64 (lv_at hl 3 rfl) ?_
          refine lv_iload hx hb d_Tellings_missingNumber_66 (lv_at hl 0 rfl) ?_
          refine lv_icmp_ge (tgt := 79) hx hb d_Tellings_missingNumber_68 (by decide) (fun c_7 => ?_) (fun c_7 => ?_)
          · have c_7n := sy_c32 c_7
            refine lv_iload hx hb d_Tellings_missingNumber_79 (lv_at hl 3 rfl) ?_
            refine lv_iload hx hb d_Tellings_missingNumber_81 (lv_at hl 0 rfl) ?_
            refine lv_isub hx hb d_Tellings_missingNumber_83 ?_
            refine lv_istore (lv' := [(6, .int (rs - (((tl_nx fI ((tl_gl fI am n).2) he n) - he) - 1))), (10, .int (((tl_nx fI ((tl_gl fI am n).2) he n) - he) - 1)), (9, .int (tl_nx fI ((tl_gl fI am n).2) he n)), (8, .int (nI k)), (7, .int he), (4, .long ((tl_gl fI am n).2)), (0, .ref h0)]) hx hb d_Tellings_missingNumber_84 hl (by decide) rfl (fun ls hl => ?_)
            refine lv_iload hx hb d_Tellings_missingNumber_86 (lv_at hl 2 rfl) ?_
            refine lv_istore (lv' := [(7, .int (tl_nx fI ((tl_gl fI am n).2) he n)), (6, .int (rs - (((tl_nx fI ((tl_gl fI am n).2) he n) - he) - 1))), (10, .int (((tl_nx fI ((tl_gl fI am n).2) he n) - he) - 1)), (9, .int (tl_nx fI ((tl_gl fI am n).2) he n)), (8, .int (nI k)), (4, .long ((tl_gl fI am n).2)), (0, .ref h0)]) hx hb d_Tellings_missingNumber_88 hl (by decide) rfl (fun ls hl => ?_)
            refine lv_iinc (v := nI (k + 1)) (lv' := [(8, .int (nI (k + 1))), (7, .int (tl_nx fI ((tl_gl fI am n).2) he n)), (6, .int (rs - (((tl_nx fI ((tl_gl fI am n).2) he n) - he) - 1))), (10, .int (((tl_nx fI ((tl_gl fI am n).2) he n) - he) - 1)), (9, .int (tl_nx fI ((tl_gl fI am n).2) he n)), (4, .long ((tl_gl fI am n).2)), (0, .ref h0)]) hx hb d_Tellings_missingNumber_90 hl (k := 4) rfl (nI_add k 1) (by decide) rfl (fun ls hl => ?_)
            refine lv_goto (tgt := 22) hx hb d_Tellings_missingNumber_93 (by decide) ?_
            refine ih22 (k + 1, rs - (((tl_nx fI ((tl_gl fI am n).2) he n) - he) - 1), tl_nx fI ((tl_gl fI am n).2) he n) ls (show n - (k + 1) < n - k by omega) ?_ (lv_sub hl [0, 2, 1, 5, 6] rfl)
            exact ⟨by omega, by rw [show n - k = (n - (k + 1)) + 1 by omega, tl_ms] at hI; simpa [c_3, c_3n, c_4, c_6, c_7, c_7n] using hI⟩
          · have c_7n := sy_d32 c_7
            refine lv_iload hx hb d_Tellings_missingNumber_71 (lv_at hl 4 rfl) ?_
            refine lv_iconst (v := 1) hx hb d_Tellings_missingNumber_73 (by decide) ?_
            refine lv_iadd hx hb d_Tellings_missingNumber_74 ?_
            refine lv_iload hx hb d_Tellings_missingNumber_75 (lv_at hl 3 rfl) ?_
            refine lv_iadd hx hb d_Tellings_missingNumber_77 ?_
            exact W.iret (v := (he + 1) + rs) hx hb hr (fun t ht hW => ⟨(he + 1) + rs, rfl, by rw [tl_miss, ← hI]; first | (rw [show n - k = 0 by omega]; rfl) | (rw [show n - k = (n - (k + 1)) + 1 by omega, tl_ms]; simp [c_3, c_3n, c_4, c_6, c_7, c_7n]; done), ht⟩) (fun q h => by cases h) d_Tellings_missingNumber_78
        · refine lv_iconst (v := (-1)) hx hb d_Tellings_missingNumber_53 (by decide) ?_
          exact W.iret (v := (-1 : Int32)) hx hb hr (fun t ht hW => ⟨(-1 : Int32), rfl, by rw [tl_miss, ← hI]; first | (rw [show n - k = 0 by omega]; rfl) | (rw [show n - k = (n - (k + 1)) + 1 by omega, tl_ms]; simp [c_3, c_3n, c_4, c_6]; done), ht⟩) (fun q h => by cases h) d_Tellings_missingNumber_54
  · exact ⟨Nat.zero_le _, rfl⟩
set_option maxHeartbeats 4000000 in
set_option maxRecDepth 100000 in
theorem c_DeviceSets_gap (l : Launch) (G : sy_G) (g : Nat → Nat) (nd : Nat) (ns : Nat) (nb : Nat) (nT : Nat) (fI : Nat → Nat → Int32) (fL : Nat → Nat → Int64) (nC : Nat) (gI : Nat → Nat → Int32) (gL : Nat → Nat → Int64) (dl : Nat → Nat) (df : Nat → Int64) (dm : Nat → Nat) (dk : Nat → Nat → Nat → Int64) (so : Nat → Int32) (sh : Nat → Nat → Int64) (sv : Nat → Nat → Int64) (d : Int32) (dv : Int32) (pk : Int32) (hd : nd ≤ 4) (hs : ns ≤ 6) (hn : nT ≤ 60) (hc : nC ≤ 20) (hm : ∀ d, d < nd → dm d ≤ 10) : Met l y_DeviceSets_gap (sy_w y_DeviceSets_gap b_DeviceSets_gap 5 (some .int)) { frames := 4, cells := 0, slots := 0, locals := 98 } (va_Pc [.ref (g 0), .int d, .int dv, .int pk] (sy_KP G (fun H => (va_P G.1 classes (xw G.2 g nd ns nb)) H ∧ (va_P G.1 classes (tw G.2 (g 3) (fun k => g (4 + k)) nT fI fL)) H ∧ (va_P G.1 classes (cw G.2 (g 11) (fun k => g (12 + k)) nC gI gL)) H ∧ (∀ d, d < nd → va_P G.1 classes (dw G.2 g dl df dm dk d) H) ∧ (∀ j, j < ns → va_P G.1 classes (sw g so sh sv j) H)))) (vp_Si (fun r => r = xm_gap ns nT fI sh d dv pk)) 0 0 (fun _ => False) := by
  refine Met.ofW (cc := b_DeviceSets_gap) (maxL := 5) (ret := (some .int)) (by decide) rfl ?_
  intro p e s m args below meth c s₁ B hml hv
  obtain ⟨rfl, ⟨hP, hPT, hPC, hPD, hPS⟩, hK⟩ := hv
  have hx := B.exec
  have hb := B.bytes
  have hr := B.returns
  have hts := atoms_spec (ws := sy_w y_DeviceSets_gap b_DeviceSets_gap 5 (some .int)) B.pre
  have ht : ∀ wd ∈ sy_T, wd.before ([.ref (g 0), .int d, .int dv, .int pk] : List Value).toArray s = true := fun wd h => hts wd (List.mem_cons_of_mem _ h)
  have hown : s.vm.findClass R_DeviceSets = some m.cls := findClass_of_methodNamed B.named
  have hlocks := B.notSynchronized
  have hl := lv_entry ([.ref (g 0), .int d, .int dv, .int pk]) (n := 5) (Nat.le_of_ble_eq_true rfl)
  rw [lg_entry_eq]
  generalize (lg_sl ([.ref (g 0), .int d, .int dv, .int pk]) ++ List.replicate (5 - (lg_sl ([.ref (g 0), .int d, .int dv, .int pk])).length) Slot.unset).toArray = ls at hl ⊢
  have hl : lv_has ls 5 [(0, .ref (g 0)), (1, .int d), (2, .int dv), (3, .int pk)] := hl
  refine lv_aload_n hx hb d_DeviceSets_gap_0 rfl (lv_at hl 0 rfl) ?_
  refine lv_iload_n hx hb d_DeviceSets_gap_1 rfl (lv_at hl 1 rfl) ?_
  refine va_csq (va_Run.run (sy_runV (As := [.int d]) (rest := []) (b := (g 0)) ⟨hx, hb, hml, hown, ht⟩ cl_DeviceSets_80 (c_DeviceSets_setAt l G g nd ns nb d (by omega)) hK hP (va_recv hK.1 hP (ci := 0) (q0 := 0) rfl rfl) rfl nm_DeviceSets_setAt rfl rfl ⟨Nat.le_of_ble_eq_true rfl, Nat.le_of_ble_eq_true rfl⟩ hl.1 (Nat.le_of_ble_eq_true rfl) d_DeviceSets_gap_2 ⟨Nat.zero_le _, Nat.zero_le _⟩)) (fun r_1 hr_1 => ?_)
  by_cases hq_2 : mo_ok ns d = true
  · obtain ⟨zd, hzd, ezd⟩ := mo_ix (by omega) hq_2
    subst ezd
    have hczd : (nI zd).toNatClampNeg = zd := nI_clamp (by omega)
    have hr_1 : r_1 = some (g (40 + 3 * zd)) := by rw [hr_1, xa_at, if_pos hq_2, hczd]
    subst hr_1
    refine sy_tr (y := .ref (g (40 + 3 * zd))) rfl ?_
    have hPzd := hPS zd hzd
    have hHzd : va_P G.1 classes (hw (g (41 + 3 * zd)) (sh zd)) s.heap := hPzd.sub [1] rfl
    refine lv_astore (lv' := [(4, .ref (g (40 + 3 * zd))), (0, .ref (g 0)), (1, .int (nI zd)), (2, .int dv), (3, .int pk)]) hx hb d_DeviceSets_gap_5 hl (by decide) rfl (fun ls hl => ?_)
    refine lv_aload hx hb d_DeviceSets_gap_7 (lv_at hl 0 rfl) ?_
    refine lv_ifnull hx hb d_DeviceSets_gap_9 ?_
    refine lv_iload_n hx hb d_DeviceSets_gap_12 rfl (lv_at hl 4 rfl) ?_
    refine lv_if_ge (tgt := 18) hx hb d_DeviceSets_gap_13 (by decide) (fun c_3 => ?_) (fun c_3 => ?_)
    · have c_3n := sy_c32 c_3
      refine lv_aload_n hx hb d_DeviceSets_gap_18 rfl (lv_at hl 1 rfl) ?_
      refine va_get (D := G.1) (ci := 0) (v := .ref (g 3)) (C := R_DeviceSets) (T := F_DeviceSets) (N := 7) hx hb ht i_DeviceSets hown hK.1 hP 0 rfl rfl 2 (by decide) (ht _ m_115) (fun _ h9 => h9) rfl d_DeviceSets_gap_19 ?_
      refine lv_aload hx hb d_DeviceSets_gap_22 (lv_at hl 0 rfl) ?_
      refine va_getN (D := G.1) (ci := 4) (v := .ref (g (41 + 3 * zd))) (C := R_ToldSet) (T := F_ToldSet) (N := 3) hx hb ht i_ToldSet hown hK.1 hPzd 0 rfl rfl 0 (by decide) (va_Nw.use rfl (hK.2 _ m_248)) (fun _ h9 => h9) rfl d_DeviceSets_gap_24 ?_
      refine va_getN (D := G.1) (ci := 3) (v := .long (sh zd 0)) (C := R_Held) (T := F_Held) (N := 4) hx hb ht i_Held hown hK.1 hHzd 0 rfl rfl 0 (by decide) (va_Nw.use rfl (hK.2 _ m_231)) (fun _ h9 => h9) rfl d_DeviceSets_gap_27 ?_
      refine lv_aload_n hx hb d_DeviceSets_gap_30 rfl (lv_at hl 1 rfl) ?_
      refine va_get (D := G.1) (ci := 0) (v := .ref (g 3)) (C := R_DeviceSets) (T := F_DeviceSets) (N := 7) hx hb ht i_DeviceSets hown hK.1 hP 0 rfl rfl 2 (by decide) (ht _ m_115) (fun _ h9 => h9) rfl d_DeviceSets_gap_31 ?_
      refine lv_iload_n hx hb d_DeviceSets_gap_34 rfl (lv_at hl 3 rfl) ?_
      refine vp_callSl (va_Run.run (sy_runV (As := [.int dv]) (rest := [.long (sh zd 0), .ref (g 3)]) (b := (g 3)) ⟨hx, hb, hml, hown, ht⟩ cl_DeviceSets_73 (c_Tellings_ofDevice l G (g 3) (fun k => g (4 + k)) nT fI fL dv (by omega)) hK hPT (va_recv hK.1 hPT (ci := 5) (q0 := 0) rfl rfl) rfl nm_Tellings_ofDevice rfl rfl ⟨Nat.le_of_ble_eq_true rfl, Nat.le_of_ble_eq_true rfl⟩ hl.1 (Nat.le_of_ble_eq_true rfl) d_DeviceSets_gap_35 ⟨Nat.zero_le _, Nat.zero_le _⟩)) (fun r_4 hr_4 => ?_)
      subst hr_4
      refine lv_land hx hb d_DeviceSets_gap_38 ?_
      refine lv_iload_n hx hb d_DeviceSets_gap_39 rfl (lv_at hl 4 rfl) ?_
      refine vp_callSi (va_Run.run (sy_runV (As := [.long ((sh zd 0) &&& (tl_ofD fI nT dv)), .int pk]) (rest := []) (b := (g 3)) ⟨hx, hb, hml, hown, ht⟩ cl_DeviceSets_140 (c_Tellings_missingNumber l G (g 3) (fun k => g (4 + k)) nT fI fL ((sh zd 0) &&& (tl_ofD fI nT dv)) pk (by omega)) hK hPT (va_recv hK.1 hPT (ci := 5) (q0 := 0) rfl rfl) rfl nm_Tellings_missingNumber rfl rfl ⟨Nat.le_of_ble_eq_true rfl, Nat.le_of_ble_eq_true rfl⟩ hl.1 (Nat.le_of_ble_eq_true rfl) d_DeviceSets_gap_40 ⟨Nat.zero_le _, Nat.zero_le _⟩)) (fun r_5 hr_5 => ?_)
      subst hr_5
      exact W.iret (v := tl_miss fI nT ((sh zd 0) &&& (tl_ofD fI nT dv)) pk) hx hb hr (fun t ht hW => ⟨tl_miss fI nT ((sh zd 0) &&& (tl_ofD fI nT dv)) pk, rfl, by simp [xm_gap, hq_2, hczd, c_3, c_3n], ht⟩) (fun q h => by cases h) d_DeviceSets_gap_43
    · have c_3n := sy_d32 c_3
      refine lv_iconst (v := (-1)) hx hb d_DeviceSets_gap_16 (by decide) ?_
      exact W.iret (v := (-1 : Int32)) hx hb hr (fun t ht hW => ⟨(-1 : Int32), rfl, by simp [xm_gap, hq_2, hczd, c_3, c_3n], ht⟩) (fun q h => by cases h) d_DeviceSets_gap_17
  · have hq_2 : mo_ok ns d = false := by simpa using hq_2
    have hr_1 : r_1 = none := by rw [hr_1, xa_at, hq_2]; rfl
    subst hr_1
    refine sy_tr (y := .null) rfl ?_
    refine lv_astoreN (lv' := [(4, .null), (0, .ref (g 0)), (1, .int d), (2, .int dv), (3, .int pk)]) hx hb d_DeviceSets_gap_5 hl (by decide) rfl (fun ls hl => ?_)
    refine lv_aloadN hx hb d_DeviceSets_gap_7 (lv_at hl 0 rfl) ?_
    refine lv_ifnullN (tgt := 16) hx hb d_DeviceSets_gap_9 (by decide) ?_
    refine lv_iconst (v := (-1)) hx hb d_DeviceSets_gap_16 (by decide) ?_
    exact W.iret (v := (-1 : Int32)) hx hb hr (fun t ht hW => ⟨(-1 : Int32), rfl, by simp [xm_gap, hq_2], ht⟩) (fun q h => by cases h) d_DeviceSets_gap_17
set_option maxHeartbeats 4000000 in
set_option maxRecDepth 100000 in
theorem c_DeviceSets_corrected (l : Launch) (G : sy_G) (g : Nat → Nat) (nd : Nat) (ns : Nat) (nb : Nat) (nT : Nat) (fI : Nat → Nat → Int32) (fL : Nat → Nat → Int64) (nC : Nat) (gI : Nat → Nat → Int32) (gL : Nat → Nat → Int64) (dl : Nat → Nat) (df : Nat → Int64) (dm : Nat → Nat) (dk : Nat → Nat → Nat → Int64) (so : Nat → Int32) (sh : Nat → Nat → Int64) (sv : Nat → Nat → Int64) (d : Int32) (x : Int64) (pt : Int32) (hd : nd ≤ 4) (hs : ns ≤ 6) (hn : nT ≤ 60) (hc : nC ≤ 20) (hm : ∀ d, d < nd → dm d ≤ 10) : Met l y_DeviceSets_corrected (sy_w y_DeviceSets_corrected b_DeviceSets_corrected 12 (some .long)) { frames := 2, cells := 0, slots := 0, locals := 51 } (va_Pc [.ref (g 0), .int d, .long x, .int pt] (sy_KP G (fun H => (va_P G.1 classes (xw G.2 g nd ns nb)) H ∧ (va_P G.1 classes (tw G.2 (g 3) (fun k => g (4 + k)) nT fI fL)) H ∧ (va_P G.1 classes (cw G.2 (g 11) (fun k => g (12 + k)) nC gI gL)) H ∧ (∀ d, d < nd → va_P G.1 classes (dw G.2 g dl df dm dk d) H) ∧ (∀ j, j < ns → va_P G.1 classes (sw g so sh sv j) H)))) (vp_Sl (fun r => r = xm_corr nd dm dk d x pt)) 0 0 (fun _ => False) := by
  refine Met.ofW (cc := b_DeviceSets_corrected) (maxL := 12) (ret := (some .long)) (by decide) rfl ?_
  intro p e s m args below meth c s₁ B hml hv
  obtain ⟨rfl, ⟨hP, hPT, hPC, hPD, hPS⟩, hK⟩ := hv
  have hx := B.exec
  have hb := B.bytes
  have hr := B.returns
  have hts := atoms_spec (ws := sy_w y_DeviceSets_corrected b_DeviceSets_corrected 12 (some .long)) B.pre
  have ht : ∀ wd ∈ sy_T, wd.before ([.ref (g 0), .int d, .long x, .int pt] : List Value).toArray s = true := fun wd h => hts wd (List.mem_cons_of_mem _ h)
  have hown : s.vm.findClass R_DeviceSets = some m.cls := findClass_of_methodNamed B.named
  have hlocks := B.notSynchronized
  have hl := lv_entry ([.ref (g 0), .int d, .long x, .int pt]) (n := 12) (Nat.le_of_ble_eq_true rfl)
  rw [lg_entry_eq]
  generalize (lg_sl ([.ref (g 0), .int d, .long x, .int pt]) ++ List.replicate (12 - (lg_sl ([.ref (g 0), .int d, .long x, .int pt])).length) Slot.unset).toArray = ls at hl ⊢
  have hl : lv_has ls 12 [(0, .ref (g 0)), (1, .int d), (2, .long x), (4, .int pt)] := hl
  refine lv_aload_n hx hb d_DeviceSets_corrected_0 rfl (lv_at hl 0 rfl) ?_
  refine lv_iload_n hx hb d_DeviceSets_corrected_1 rfl (lv_at hl 1 rfl) ?_
  refine va_csq (va_Run.run (sy_runV (As := [.int d]) (rest := []) (b := (g 0)) ⟨hx, hb, hml, hown, ht⟩ cl_DeviceSets_40 (c_DeviceSets_deviceAt l G g nd ns nb d (by omega)) hK hP (va_recv hK.1 hP (ci := 0) (q0 := 0) rfl rfl) rfl nm_DeviceSets_deviceAt rfl rfl ⟨Nat.le_of_ble_eq_true rfl, Nat.le_of_ble_eq_true rfl⟩ hl.1 (Nat.le_of_ble_eq_true rfl) d_DeviceSets_corrected_2 ⟨Nat.zero_le _, Nat.zero_le _⟩)) (fun r_1 hr_1 => ?_)
  by_cases hq_2 : mo_ok nd d = true
  · obtain ⟨zd, hzd, ezd⟩ := mo_ix (by omega) hq_2
    subst ezd
    have hczd : (nI zd).toNatClampNeg = zd := nI_clamp (by omega)
    have hr_1 : r_1 = some (g (20 + 4 * zd)) := by rw [hr_1, xa_at, if_pos hq_2, hczd]
    subst hr_1
    refine sy_tr (y := .ref (g (20 + 4 * zd))) rfl ?_
    have hPzd := hPD zd hzd
    have hKzd : va_P G.1 classes (kw G.2 (g (21 + 4 * zd)) (fun k => g (22 + 4 * zd + k)) (dm zd) (dk zd)) s.heap := hPzd.sub [1, 2, 3] rfl
    refine lv_astore (lv' := [(5, .ref (g (20 + 4 * zd))), (0, .ref (g 0)), (1, .int (nI zd)), (2, .long x), (4, .int pt)]) hx hb d_DeviceSets_corrected_5 hl (by decide) rfl (fun ls hl => ?_)
    refine lv_aload hx hb d_DeviceSets_corrected_7 (lv_at hl 0 rfl) ?_
    refine lv_ifnull hx hb d_DeviceSets_corrected_9 ?_
    refine lv_lload_n hx hb d_DeviceSets_corrected_12 rfl (lv_at hl 3 rfl) ?_
    refine vp_callSi (va_Run.run (sy_runS (As := [.long x]) (rest := []) ⟨hx, hb, hml, hown, ht⟩ cl_DeviceSets_44 (c_DeviceSets_isNumber l G x) hK trivial rfl nm_DeviceSets_isNumber rfl rfl ⟨Nat.le_of_ble_eq_true rfl, Nat.le_of_ble_eq_true rfl⟩ hl.1 (Nat.le_of_ble_eq_true rfl) d_DeviceSets_corrected_13 ⟨Nat.zero_le _, Nat.zero_le _⟩)) (fun r_3 hr_3 => ?_)
    subst hr_3
    refine lv_if_eq (tgt := 30) hx hb d_DeviceSets_corrected_16 (by decide) (fun c_4 => ?_) (fun c_4 => ?_)
    · have c_4 : (ok_num x) = false := bI_f c_4
      refine lv_ldc2 (v := (-9223372036854775808)) hx hb hown (ht _ m_326) d_DeviceSets_corrected_30 ?_
      exact W.lret (v := (-9223372036854775808 : Int64)) hx hb hr (fun t ht hW => ⟨(-9223372036854775808 : Int64), rfl, by simp [xm_corr, xm_cv, xm_abs, hq_2, hczd, c_4], ht⟩) (fun q h => by cases h) d_DeviceSets_corrected_33
    · have c_4 : (ok_num x) = true := bI_t c_4
      refine lv_iload hx hb d_DeviceSets_corrected_19 (lv_at hl 4 rfl) ?_
      refine lv_if_lt (tgt := 30) hx hb d_DeviceSets_corrected_21 (by decide) (fun c_5 => ?_) (fun c_5 => ?_)
      · have c_5n := sy_a32 c_5
        refine lv_ldc2 (v := (-9223372036854775808)) hx hb hown (ht _ m_326) d_DeviceSets_corrected_30 ?_
        exact W.lret (v := (-9223372036854775808 : Int64)) hx hb hr (fun t ht hW => ⟨(-9223372036854775808 : Int64), rfl, by simp [xm_corr, xm_cv, xm_abs, hq_2, hczd, c_4, c_5, c_5n], ht⟩) (fun q h => by cases h) d_DeviceSets_corrected_33
      · have c_5n := sy_b32 c_5
        refine lv_iload hx hb d_DeviceSets_corrected_24 (lv_at hl 4 rfl) ?_
        refine lv_iconst (v := 1) hx hb d_DeviceSets_corrected_26 (by decide) ?_
        refine lv_icmp_le (tgt := 34) hx hb d_DeviceSets_corrected_27 (by decide) (fun c_6 => ?_) (fun c_6 => ?_)
        · have c_6n := sy_c32 c_6
          refine lv_aload hx hb d_DeviceSets_corrected_34 (lv_at hl 0 rfl) ?_
          refine va_getN (D := G.1) (ci := 1) (v := .ref (g (21 + 4 * zd))) (C := R_Device) (T := F_Device) (N := 3) hx hb ht i_Device hown hK.1 hPzd 0 rfl rfl 0 (by decide) (va_Nw.use rfl (hK.2 _ m_161)) (fun _ h9 => h9) rfl d_DeviceSets_corrected_36 ?_
          refine lv_lload_n hx hb d_DeviceSets_corrected_39 rfl (lv_at hl 3 rfl) ?_
          refine vp_callSl (va_Run.run (sy_runV (As := [.long x]) (rest := []) (b := (g (21 + 4 * zd))) ⟨hx, hb, hml, hown, ht⟩ cl_DeviceSets_208 (c_Clock_numerator l G (g (21 + 4 * zd)) (fun k => g (22 + 4 * zd + k)) (dm zd) (dk zd) x (hm zd hzd)) hK hKzd (va_recv hK.1 hKzd (ci := 2) (q0 := 0) rfl rfl) rfl nm_Clock_numerator rfl rfl ⟨Nat.le_of_ble_eq_true rfl, Nat.le_of_ble_eq_true rfl⟩ hl.1 (Nat.le_of_ble_eq_true rfl) d_DeviceSets_corrected_40 ⟨Nat.zero_le _, Nat.zero_le _⟩)) (fun r_7 hr_7 => ?_)
          subst hr_7
          refine lv_lstore (lv' := [(6, .long (ck_num (dk zd) (dm zd) x)), (5, .ref (g (20 + 4 * zd))), (0, .ref (g 0)), (1, .int (nI zd)), (2, .long x), (4, .int pt)]) hx hb d_DeviceSets_corrected_43 hl (by decide) rfl (fun ls hl => ?_)
          refine lv_aload hx hb d_DeviceSets_corrected_45 (lv_at hl 1 rfl) ?_
          refine va_getN (D := G.1) (ci := 1) (v := .ref (g (21 + 4 * zd))) (C := R_Device) (T := F_Device) (N := 3) hx hb ht i_Device hown hK.1 hPzd 0 rfl rfl 0 (by decide) (va_Nw.use rfl (hK.2 _ m_161)) (fun _ h9 => h9) rfl d_DeviceSets_corrected_47 ?_
          refine lv_lload_n hx hb d_DeviceSets_corrected_50 rfl (lv_at hl 4 rfl) ?_
          refine vp_callSl (va_Run.run (sy_runV (As := [.long x]) (rest := []) (b := (g (21 + 4 * zd))) ⟨hx, hb, hml, hown, ht⟩ cl_DeviceSets_212 (c_Clock_denominator l G (g (21 + 4 * zd)) (fun k => g (22 + 4 * zd + k)) (dm zd) (dk zd) x (hm zd hzd)) hK hKzd (va_recv hK.1 hKzd (ci := 2) (q0 := 0) rfl rfl) rfl nm_Clock_denominator rfl rfl ⟨Nat.le_of_ble_eq_true rfl, Nat.le_of_ble_eq_true rfl⟩ hl.1 (Nat.le_of_ble_eq_true rfl) d_DeviceSets_corrected_51 ⟨Nat.zero_le _, Nat.zero_le _⟩)) (fun r_8 hr_8 => ?_)
          subst hr_8
          refine lv_lstore (lv' := [(8, .long (ck_den (dk zd) (dm zd) x)), (6, .long (ck_num (dk zd) (dm zd) x)), (5, .ref (g (20 + 4 * zd))), (0, .ref (g 0)), (1, .int (nI zd)), (2, .long x), (4, .int pt)]) hx hb d_DeviceSets_corrected_54 hl (by decide) rfl (fun ls hl => ?_)
          refine lv_lload hx hb d_DeviceSets_corrected_56 (lv_at hl 1 rfl) ?_
          refine va_mabs_long hx hb (by rw [hml]; exact hl.1.symm) hown (ht _ m_480) (ht _ m_481) (ht _ m_38) (ht _ m_482) (Nat.le_of_ble_eq_true rfl) (Nat.le_of_ble_eq_true rfl) (Nat.zero_le _) (Nat.zero_le _) d_DeviceSets_corrected_58 ?_
          refine lv_lload hx hb d_DeviceSets_corrected_61 (lv_at hl 0 rfl) ?_
          refine vp_callSl (va_Run.run (sy_runS (As := [.long (if 0 < (ck_num (dk zd) (dm zd) x) then (ck_num (dk zd) (dm zd) x) else -(ck_num (dk zd) (dm zd) x)), .long (ck_den (dk zd) (dm zd) x)]) (rest := []) ⟨hx, hb, hml, hown, ht⟩ cl_DeviceSets_218 (c_DeviceSets_commonDivisor l G (if 0 < (ck_num (dk zd) (dm zd) x) then (ck_num (dk zd) (dm zd) x) else -(ck_num (dk zd) (dm zd) x)) (ck_den (dk zd) (dm zd) x)) hK trivial rfl nm_DeviceSets_commonDivisor rfl rfl ⟨Nat.le_of_ble_eq_true rfl, Nat.le_of_ble_eq_true rfl⟩ hl.1 (Nat.le_of_ble_eq_true rfl) d_DeviceSets_corrected_63 ⟨Nat.zero_le _, Nat.zero_le _⟩)) (fun r_9 hr_9 => ?_)
          subst hr_9
          refine lv_lstore (lv' := [(10, .long (cd_f 100 (if 0 < (ck_num (dk zd) (dm zd) x) then (ck_num (dk zd) (dm zd) x) else -(ck_num (dk zd) (dm zd) x)) (ck_den (dk zd) (dm zd) x))), (8, .long (ck_den (dk zd) (dm zd) x)), (6, .long (ck_num (dk zd) (dm zd) x)), (5, .ref (g (20 + 4 * zd))), (0, .ref (g 0)), (1, .int (nI zd)), (2, .long x), (4, .int pt)]) hx hb d_DeviceSets_corrected_66 hl (by decide) rfl (fun ls hl => ?_)
          refine lv_lload hx hb d_DeviceSets_corrected_68 (lv_at hl 0 rfl) ?_
          refine lv_lconst (v := 0) hx hb d_DeviceSets_corrected_70 (by decide) ?_
          refine sy_lc_ne (tgt := 79) hx hb d_DeviceSets_corrected_71 d_DeviceSets_corrected_72 (by decide) (fun c_10 => ?_) (fun c_10 => ?_)
          · refine lv_iload hx hb d_DeviceSets_corrected_79 (lv_at hl 7 rfl) ?_
            refine lv_if_ne (tgt := 89) hx hb d_DeviceSets_corrected_81 (by decide) (fun c_11 => ?_) (fun c_11 => ?_)
            · refine lv_lload hx hb d_DeviceSets_corrected_89 (lv_at hl 1 rfl) ?_
              refine lv_lload hx hb d_DeviceSets_corrected_91 (lv_at hl 0 rfl) ?_
              refine lv_ldiv hx hb d_DeviceSets_corrected_93 (by assumption) ?_
              exact W.lret (v := (ck_den (dk zd) (dm zd) x) / (cd_f 100 (if 0 < (ck_num (dk zd) (dm zd) x) then (ck_num (dk zd) (dm zd) x) else -(ck_num (dk zd) (dm zd) x)) (ck_den (dk zd) (dm zd) x))) hx hb hr (fun t ht hW => ⟨(ck_den (dk zd) (dm zd) x) / (cd_f 100 (if 0 < (ck_num (dk zd) (dm zd) x) then (ck_num (dk zd) (dm zd) x) else -(ck_num (dk zd) (dm zd) x)) (ck_den (dk zd) (dm zd) x)), rfl, by simp [xm_corr, xm_cv, xm_abs, hq_2, hczd, c_4, c_5, c_5n, c_6, c_6n, c_10, c_11], ht⟩) (fun q h => by cases h) d_DeviceSets_corrected_94
            · refine lv_lload hx hb d_DeviceSets_corrected_84 (lv_at hl 2 rfl) ?_
              refine lv_goto (tgt := 91) hx hb d_DeviceSets_corrected_86 (by decide) ?_
              refine lv_lload hx hb d_DeviceSets_corrected_91 (lv_at hl 0 rfl) ?_
              refine lv_ldiv hx hb d_DeviceSets_corrected_93 (by assumption) ?_
              exact W.lret (v := (ck_num (dk zd) (dm zd) x) / (cd_f 100 (if 0 < (ck_num (dk zd) (dm zd) x) then (ck_num (dk zd) (dm zd) x) else -(ck_num (dk zd) (dm zd) x)) (ck_den (dk zd) (dm zd) x))) hx hb hr (fun t ht hW => ⟨(ck_num (dk zd) (dm zd) x) / (cd_f 100 (if 0 < (ck_num (dk zd) (dm zd) x) then (ck_num (dk zd) (dm zd) x) else -(ck_num (dk zd) (dm zd) x)) (ck_den (dk zd) (dm zd) x)), rfl, by simp [xm_corr, xm_cv, xm_abs, hq_2, hczd, c_4, c_5, c_5n, c_6, c_6n, c_10, c_11], ht⟩) (fun q h => by cases h) d_DeviceSets_corrected_94
          · refine lv_ldc2 (v := (-9223372036854775808)) hx hb hown (ht _ m_326) d_DeviceSets_corrected_75 ?_
            exact W.lret (v := (-9223372036854775808 : Int64)) hx hb hr (fun t ht hW => ⟨(-9223372036854775808 : Int64), rfl, by simp [xm_corr, xm_cv, xm_abs, hq_2, hczd, c_4, c_5, c_5n, c_6, c_6n, c_10], ht⟩) (fun q h => by cases h) d_DeviceSets_corrected_78
        · have c_6n := sy_d32 c_6
          refine lv_ldc2 (v := (-9223372036854775808)) hx hb hown (ht _ m_326) d_DeviceSets_corrected_30 ?_
          exact W.lret (v := (-9223372036854775808 : Int64)) hx hb hr (fun t ht hW => ⟨(-9223372036854775808 : Int64), rfl, by simp [xm_corr, xm_cv, xm_abs, hq_2, hczd, c_4, c_5, c_5n, c_6, c_6n], ht⟩) (fun q h => by cases h) d_DeviceSets_corrected_33
  · have hq_2 : mo_ok nd d = false := by simpa using hq_2
    have hr_1 : r_1 = none := by rw [hr_1, xa_at, hq_2]; rfl
    subst hr_1
    refine sy_tr (y := .null) rfl ?_
    refine lv_astoreN (lv' := [(5, .null), (0, .ref (g 0)), (1, .int d), (2, .long x), (4, .int pt)]) hx hb d_DeviceSets_corrected_5 hl (by decide) rfl (fun ls hl => ?_)
    refine lv_aloadN hx hb d_DeviceSets_corrected_7 (lv_at hl 0 rfl) ?_
    refine lv_ifnullN (tgt := 30) hx hb d_DeviceSets_corrected_9 (by decide) ?_
    refine lv_ldc2 (v := (-9223372036854775808)) hx hb hown (ht _ m_326) d_DeviceSets_corrected_30 ?_
    exact W.lret (v := (-9223372036854775808 : Int64)) hx hb hr (fun t ht hW => ⟨(-9223372036854775808 : Int64), rfl, by simp [xm_corr, xm_cv, xm_abs, hq_2], ht⟩) (fun q h => by cases h) d_DeviceSets_corrected_33
