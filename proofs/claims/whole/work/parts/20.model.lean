set_option maxHeartbeats 4000000 in
set_option maxRecDepth 100000 in
theorem c_Model_isIn (l : Launch) (G : sy_G) (v : Int64) (lo : Int64) (hi : Int64) : Met l y_Model_isIn (sy_w y_Model_isIn b_Model_isIn 6 (some .boolean)) { frames := 0, cells := 0, slots := 0, locals := 0 } (va_Pc [.long v, .long lo, .long hi] (sy_KP G (fun _ => True))) (vp_Si (fun r => r = bI (mo_in v lo hi))) 0 0 (fun _ => False) := by
  refine Met.ofW (cc := b_Model_isIn) (maxL := 6) (ret := (some .boolean)) (by decide) rfl ?_
  intro p e s m args below meth c s₁ B hml hv
  obtain ⟨rfl, hP, hK⟩ := hv
  have hx := B.exec
  have hb := B.bytes
  have hr := B.returns
  have hts := atoms_spec (ws := sy_w y_Model_isIn b_Model_isIn 6 (some .boolean)) B.pre
  have ht : ∀ wd ∈ sy_T, wd.before ([.long v, .long lo, .long hi] : List Value).toArray s = true := fun wd h => hts wd (List.mem_cons_of_mem _ h)
  have hown : s.vm.findClass R_Model = some m.cls := findClass_of_methodNamed B.named
  have hlocks := B.notSynchronized
  have hl := lv_entry ([.long v, .long lo, .long hi]) (n := 6) (Nat.le_of_ble_eq_true rfl)
  rw [lg_entry_eq]
  generalize (lg_sl ([.long v, .long lo, .long hi]) ++ List.replicate (6 - (lg_sl ([.long v, .long lo, .long hi])).length) Slot.unset).toArray = ls at hl ⊢
  have hl : lv_has ls 6 [(0, .long v), (2, .long lo), (4, .long hi)] := hl
  refine lv_lload_n hx hb d_Model_isIn_0 rfl (lv_at hl 0 rfl) ?_
  refine lv_lload_n hx hb d_Model_isIn_1 rfl (lv_at hl 1 rfl) ?_
  refine sy_lc_lt (tgt := 17) hx hb d_Model_isIn_2 d_Model_isIn_3 (by decide) (fun c_1 => ?_) (fun c_1 => ?_)
  · have c_1n := sy_a64 c_1
    refine lv_iconst (v := 0) hx hb d_Model_isIn_17 (by decide) ?_
    exact W.zret (v := (0 : Int32)) hx hb hr (rfl) (fun t ht hW => ⟨(0 : Int32), rfl, by simp [bI, mo_in, c_1, c_1n], ht⟩) (fun q h => by cases h) d_Model_isIn_18
  · have c_1n := sy_b64 c_1
    refine lv_lload_n hx hb d_Model_isIn_6 rfl (lv_at hl 0 rfl) ?_
    refine lv_lload hx hb d_Model_isIn_7 (lv_at hl 2 rfl) ?_
    refine sy_lc_gt (tgt := 17) hx hb d_Model_isIn_9 d_Model_isIn_10 (by decide) (fun c_2 => ?_) (fun c_2 => ?_)
    · have c_2n := sy_a64 c_2
      refine lv_iconst (v := 0) hx hb d_Model_isIn_17 (by decide) ?_
      exact W.zret (v := (0 : Int32)) hx hb hr (rfl) (fun t ht hW => ⟨(0 : Int32), rfl, by simp [bI, mo_in, c_1, c_1n, c_2, c_2n], ht⟩) (fun q h => by cases h) d_Model_isIn_18
    · have c_2n := sy_b64 c_2
      refine lv_iconst (v := 1) hx hb d_Model_isIn_13 (by decide) ?_
      refine lv_goto (tgt := 18) hx hb d_Model_isIn_14 (by decide) ?_
      exact W.zret (v := (1 : Int32)) hx hb hr (rfl) (fun t ht hW => ⟨(1 : Int32), rfl, by simp [bI, mo_in, c_1, c_1n, c_2, c_2n], ht⟩) (fun q h => by cases h) d_Model_isIn_18
set_option maxHeartbeats 4000000 in
set_option maxRecDepth 100000 in
theorem c_Model_isDevice (l : Launch) (G : sy_G) (ob : Nat) (ad : Nat → Nat) (sc : Nat → Nat) (mI : Nat → Nat → Int32) (mL : Nat → Nat → Int64) (mZ : Nat → Nat → Bool) (d : Int32) (hd : sc 0 ≤ 4) : Met l y_Model_isDevice (sy_w y_Model_isDevice b_Model_isDevice 2 (some .boolean)) { frames := 0, cells := 0, slots := 0, locals := 0 } (va_Pc [.ref ob, .int d] (sy_KP G (va_P G.1 classes (mw G.2 ob ad sc mI mL mZ)))) (vp_Si (fun r => r = bI (mo_ok (sc 0) d))) 0 0 (fun _ => False) := by
  refine Met.ofW (cc := b_Model_isDevice) (maxL := 2) (ret := (some .boolean)) (by decide) rfl ?_
  intro p e s m args below meth c s₁ B hml hv
  obtain ⟨rfl, hP, hK⟩ := hv
  have hx := B.exec
  have hb := B.bytes
  have hr := B.returns
  have hts := atoms_spec (ws := sy_w y_Model_isDevice b_Model_isDevice 2 (some .boolean)) B.pre
  have ht : ∀ wd ∈ sy_T, wd.before ([.ref ob, .int d] : List Value).toArray s = true := fun wd h => hts wd (List.mem_cons_of_mem _ h)
  have hown : s.vm.findClass R_Model = some m.cls := findClass_of_methodNamed B.named
  have hlocks := B.notSynchronized
  have hl := lv_entry ([.ref ob, .int d]) (n := 2) (Nat.le_of_ble_eq_true rfl)
  rw [lg_entry_eq]
  generalize (lg_sl ([.ref ob, .int d]) ++ List.replicate (2 - (lg_sl ([.ref ob, .int d])).length) Slot.unset).toArray = ls at hl ⊢
  have hl : lv_has ls 2 [(0, .ref ob), (1, .int d)] := hl
  refine lv_iload_n hx hb d_Model_isDevice_0 rfl (lv_at hl 1 rfl) ?_
  refine lv_if_lt (tgt := 16) hx hb d_Model_isDevice_1 (by decide) (fun c_1 => ?_) (fun c_1 => ?_)
  · have c_1n := sy_a32 c_1
    refine lv_iconst (v := 0) hx hb d_Model_isDevice_16 (by decide) ?_
    exact W.zret (v := (0 : Int32)) hx hb hr (rfl) (fun t ht hW => ⟨(0 : Int32), rfl, by simp [bI, mo_ok, c_1, c_1n], ht⟩) (fun q h => by cases h) d_Model_isDevice_17
  · have c_1n := sy_b32 c_1
    refine lv_iload_n hx hb d_Model_isDevice_4 rfl (lv_at hl 1 rfl) ?_
    refine lv_aload_n hx hb d_Model_isDevice_5 rfl (lv_at hl 0 rfl) ?_
    refine va_get (D := G.1) (ci := 7) (v := .int (nI (sc 0))) (C := R_Model) (T := F_Model) (N := 23) hx hb ht i_Model hown hK.1 hP 0 rfl rfl 0 (by decide) (ht _ m_505) (fun _ h9 => h9) rfl d_Model_isDevice_6 ?_
    refine lv_icmp_ge (tgt := 16) hx hb d_Model_isDevice_9 (by decide) (fun c_2 => ?_) (fun c_2 => ?_)
    · have c_2n := sy_c32 c_2
      refine lv_iconst (v := 0) hx hb d_Model_isDevice_16 (by decide) ?_
      exact W.zret (v := (0 : Int32)) hx hb hr (rfl) (fun t ht hW => ⟨(0 : Int32), rfl, by simp [bI, mo_ok, c_1, c_1n, c_2, c_2n], ht⟩) (fun q h => by cases h) d_Model_isDevice_17
    · have c_2n := sy_d32 c_2
      refine lv_iconst (v := 1) hx hb d_Model_isDevice_12 (by decide) ?_
      refine lv_goto (tgt := 17) hx hb d_Model_isDevice_13 (by decide) ?_
      exact W.zret (v := (1 : Int32)) hx hb hr (rfl) (fun t ht hW => ⟨(1 : Int32), rfl, by simp [bI, mo_ok, c_1, c_1n, c_2, c_2n], ht⟩) (fun q h => by cases h) d_Model_isDevice_17
set_option maxHeartbeats 4000000 in
set_option maxRecDepth 100000 in
theorem c_Model_isSet (l : Launch) (G : sy_G) (ob : Nat) (ad : Nat → Nat) (sc : Nat → Nat) (mI : Nat → Nat → Int32) (mL : Nat → Nat → Int64) (mZ : Nat → Nat → Bool) (d : Int32) (hd : sc 3 ≤ 6) : Met l y_Model_isSet (sy_w y_Model_isSet b_Model_isSet 2 (some .boolean)) { frames := 0, cells := 0, slots := 0, locals := 0 } (va_Pc [.ref ob, .int d] (sy_KP G (va_P G.1 classes (mw G.2 ob ad sc mI mL mZ)))) (vp_Si (fun r => r = bI (mo_ok (sc 3) d))) 0 0 (fun _ => False) := by
  refine Met.ofW (cc := b_Model_isSet) (maxL := 2) (ret := (some .boolean)) (by decide) rfl ?_
  intro p e s m args below meth c s₁ B hml hv
  obtain ⟨rfl, hP, hK⟩ := hv
  have hx := B.exec
  have hb := B.bytes
  have hr := B.returns
  have hts := atoms_spec (ws := sy_w y_Model_isSet b_Model_isSet 2 (some .boolean)) B.pre
  have ht : ∀ wd ∈ sy_T, wd.before ([.ref ob, .int d] : List Value).toArray s = true := fun wd h => hts wd (List.mem_cons_of_mem _ h)
  have hown : s.vm.findClass R_Model = some m.cls := findClass_of_methodNamed B.named
  have hlocks := B.notSynchronized
  have hl := lv_entry ([.ref ob, .int d]) (n := 2) (Nat.le_of_ble_eq_true rfl)
  rw [lg_entry_eq]
  generalize (lg_sl ([.ref ob, .int d]) ++ List.replicate (2 - (lg_sl ([.ref ob, .int d])).length) Slot.unset).toArray = ls at hl ⊢
  have hl : lv_has ls 2 [(0, .ref ob), (1, .int d)] := hl
  refine lv_iload_n hx hb d_Model_isSet_0 rfl (lv_at hl 1 rfl) ?_
  refine lv_if_lt (tgt := 16) hx hb d_Model_isSet_1 (by decide) (fun c_1 => ?_) (fun c_1 => ?_)
  · have c_1n := sy_a32 c_1
    refine lv_iconst (v := 0) hx hb d_Model_isSet_16 (by decide) ?_
    exact W.zret (v := (0 : Int32)) hx hb hr (rfl) (fun t ht hW => ⟨(0 : Int32), rfl, by simp [bI, mo_ok, c_1, c_1n], ht⟩) (fun q h => by cases h) d_Model_isSet_17
  · have c_1n := sy_b32 c_1
    refine lv_iload_n hx hb d_Model_isSet_4 rfl (lv_at hl 1 rfl) ?_
    refine lv_aload_n hx hb d_Model_isSet_5 rfl (lv_at hl 0 rfl) ?_
    refine va_get (D := G.1) (ci := 7) (v := .int (nI (sc 3))) (C := R_Model) (T := F_Model) (N := 23) hx hb ht i_Model hown hK.1 hP 0 rfl rfl 13 (by decide) (ht _ m_518) (fun _ h9 => h9) rfl d_Model_isSet_6 ?_
    refine lv_icmp_ge (tgt := 16) hx hb d_Model_isSet_9 (by decide) (fun c_2 => ?_) (fun c_2 => ?_)
    · have c_2n := sy_c32 c_2
      refine lv_iconst (v := 0) hx hb d_Model_isSet_16 (by decide) ?_
      exact W.zret (v := (0 : Int32)) hx hb hr (rfl) (fun t ht hW => ⟨(0 : Int32), rfl, by simp [bI, mo_ok, c_1, c_1n, c_2, c_2n], ht⟩) (fun q h => by cases h) d_Model_isSet_17
    · have c_2n := sy_d32 c_2
      refine lv_iconst (v := 1) hx hb d_Model_isSet_12 (by decide) ?_
      refine lv_goto (tgt := 17) hx hb d_Model_isSet_13 (by decide) ?_
      exact W.zret (v := (1 : Int32)) hx hb hr (rfl) (fun t ht hW => ⟨(1 : Int32), rfl, by simp [bI, mo_ok, c_1, c_1n, c_2, c_2n], ht⟩) (fun q h => by cases h) d_Model_isSet_17
set_option maxHeartbeats 4000000 in
set_option maxRecDepth 100000 in
theorem c_Model_isHere (l : Launch) (G : sy_G) (ob : Nat) (ad : Nat → Nat) (sc : Nat → Nat) (mI : Nat → Nat → Int32) (mL : Nat → Nat → Int64) (mZ : Nat → Nat → Bool) (z : Nat) (i : Nat) (hz : z < 12) (hi : i < 60) : Met l y_Model_isHere (sy_w y_Model_isHere b_Model_isHere 3 (some .boolean)) { frames := 0, cells := 0, slots := 0, locals := 0 } (va_Pc [.ref ob, .int (nI z), .int (nI i)] (sy_KP G (va_P G.1 classes (mw G.2 ob ad sc mI mL mZ)))) (vp_Si (fun r => r = bI (mo_he mI mL mZ z i))) 0 0 (fun _ => False) := by
  refine Met.ofW (cc := b_Model_isHere) (maxL := 3) (ret := (some .boolean)) (by decide) rfl ?_
  intro p e s m args below meth c s₁ B hml hv
  obtain ⟨rfl, hP, hK⟩ := hv
  have hx := B.exec
  have hb := B.bytes
  have hr := B.returns
  have hts := atoms_spec (ws := sy_w y_Model_isHere b_Model_isHere 3 (some .boolean)) B.pre
  have ht : ∀ wd ∈ sy_T, wd.before ([.ref ob, .int (nI z), .int (nI i)] : List Value).toArray s = true := fun wd h => hts wd (List.mem_cons_of_mem _ h)
  have hown : s.vm.findClass R_Model = some m.cls := findClass_of_methodNamed B.named
  have hlocks := B.notSynchronized
  have hl := lv_entry ([.ref ob, .int (nI z), .int (nI i)]) (n := 3) (Nat.le_of_ble_eq_true rfl)
  rw [lg_entry_eq]
  generalize (lg_sl ([.ref ob, .int (nI z), .int (nI i)]) ++ List.replicate (3 - (lg_sl ([.ref ob, .int (nI z), .int (nI i)])).length) Slot.unset).toArray = ls at hl ⊢
  have hl : lv_has ls 3 [(0, .ref ob), (1, .int (nI z)), (2, .int (nI i))] := hl
  refine lv_aload_n hx hb d_Model_isHere_0 rfl (lv_at hl 0 rfl) ?_
  refine va_get (D := G.1) (ci := 7) (v := .ref (ad 10)) (C := R_Model) (T := F_Model) (N := 23) hx hb ht i_Model hown hK.1 hP 0 rfl rfl 15 (by decide) (ht _ m_520) (fun _ h9 => h9) rfl d_Model_isHere_1 ?_
  refine lv_bipush (v := 60) hx hb d_Model_isHere_4 (by decide) ?_
  refine lv_iload_n hx hb d_Model_isHere_6 rfl (lv_at hl 1 rfl) ?_
  refine lv_imul hx hb d_Model_isHere_7 ?_
  refine sy_ti (y := nI (60 * z)) (pk_mul 60 z) ?_
  refine lv_iload_n hx hb d_Model_isHere_8 rfl (lv_at hl 2 rfl) ?_
  refine lv_iadd hx hb d_Model_isHere_9 ?_
  refine sy_ti (y := nI ((60 * z) + i)) (nI_add (60 * z) i) ?_
  refine sy_zald hx hb hK.1 hP 11 2 rfl rfl (k := (60 * z) + i) (by omega) (by decide) d_Model_isHere_10 ?_
  refine lv_if_eq (tgt := 35) hx hb d_Model_isHere_11 (by decide) (fun c_1 => ?_) (fun c_1 => ?_)
  · have c_1 : (mZ 10 ((60 * z) + i)) = false := bI_f c_1
    refine lv_iconst (v := 0) hx hb d_Model_isHere_35 (by decide) ?_
    exact W.zret (v := (0 : Int32)) hx hb hr (rfl) (fun t ht hW => ⟨(0 : Int32), rfl, by simp [bI, mo_he, c_1], ht⟩) (fun q h => by cases h) d_Model_isHere_36
  · have c_1 : (mZ 10 ((60 * z) + i)) = true := bI_t c_1
    refine lv_aload_n hx hb d_Model_isHere_14 rfl (lv_at hl 0 rfl) ?_
    refine va_get (D := G.1) (ci := 7) (v := .ref (ad 6)) (C := R_Model) (T := F_Model) (N := 23) hx hb ht i_Model hown hK.1 hP 0 rfl rfl 8 (by decide) (ht _ m_513) (fun _ h9 => h9) rfl d_Model_isHere_15 ?_
    refine lv_iload_n hx hb d_Model_isHere_18 rfl (lv_at hl 2 rfl) ?_
    refine sy_iald hx hb hK.1 hP 7 0 rfl rfl (k := i) (by omega) (by decide) d_Model_isHere_19 ?_
    refine lv_i2l (v := (mI 6 i).toInt64) hx hb d_Model_isHere_20 rfl ?_
    refine lv_aload_n hx hb d_Model_isHere_21 rfl (lv_at hl 0 rfl) ?_
    refine va_get (D := G.1) (ci := 7) (v := .ref (ad 13)) (C := R_Model) (T := F_Model) (N := 23) hx hb ht i_Model hown hK.1 hP 0 rfl rfl 18 (by decide) (ht _ m_523) (fun _ h9 => h9) rfl d_Model_isHere_22 ?_
    refine lv_iload_n hx hb d_Model_isHere_25 rfl (lv_at hl 1 rfl) ?_
    refine sy_lald hx hb hK.1 hP 14 1 rfl rfl (k := z) (by omega) (by decide) d_Model_isHere_26 ?_
    refine sy_lc_lt (tgt := 35) hx hb d_Model_isHere_27 d_Model_isHere_28 (by decide) (fun c_2 => ?_) (fun c_2 => ?_)
    · have c_2n := sy_a64 c_2
      refine lv_iconst (v := 0) hx hb d_Model_isHere_35 (by decide) ?_
      exact W.zret (v := (0 : Int32)) hx hb hr (rfl) (fun t ht hW => ⟨(0 : Int32), rfl, by simp [bI, mo_he, c_1, c_2, c_2n], ht⟩) (fun q h => by cases h) d_Model_isHere_36
    · have c_2n := sy_b64 c_2
      refine lv_iconst (v := 1) hx hb d_Model_isHere_31 (by decide) ?_
      refine lv_goto (tgt := 36) hx hb d_Model_isHere_32 (by decide) ?_
      exact W.zret (v := (1 : Int32)) hx hb hr (rfl) (fun t ht hW => ⟨(1 : Int32), rfl, by simp [bI, mo_he, c_1, c_2, c_2n], ht⟩) (fun q h => by cases h) d_Model_isHere_36
set_option maxHeartbeats 4000000 in
set_option maxRecDepth 100000 in
theorem c_Model_isChosen (l : Launch) (G : sy_G) (ob : Nat) (ad : Nat → Nat) (sc : Nat → Nat) (mI : Nat → Nat → Int32) (mL : Nat → Nat → Int64) (mZ : Nat → Nat → Bool) (z : Nat) (i : Nat) (hz : z < 12) (hi : i < 60) : Met l y_Model_isChosen (sy_w y_Model_isChosen b_Model_isChosen 3 (some .boolean)) { frames := 1, cells := 0, slots := 0, locals := 22 } (va_Pc [.ref ob, .int (nI z), .int (nI i)] (sy_KP G (va_P G.1 classes (mw G.2 ob ad sc mI mL mZ)))) (vp_Si (fun r => r = bI (mo_cs mI mL mZ z i))) 0 0 (fun _ => False) := by
  refine Met.ofW (cc := b_Model_isChosen) (maxL := 3) (ret := (some .boolean)) (by decide) rfl ?_
  intro p e s m args below meth c s₁ B hml hv
  obtain ⟨rfl, hP, hK⟩ := hv
  have hx := B.exec
  have hb := B.bytes
  have hr := B.returns
  have hts := atoms_spec (ws := sy_w y_Model_isChosen b_Model_isChosen 3 (some .boolean)) B.pre
  have ht : ∀ wd ∈ sy_T, wd.before ([.ref ob, .int (nI z), .int (nI i)] : List Value).toArray s = true := fun wd h => hts wd (List.mem_cons_of_mem _ h)
  have hown : s.vm.findClass R_Model = some m.cls := findClass_of_methodNamed B.named
  have hlocks := B.notSynchronized
  have hl := lv_entry ([.ref ob, .int (nI z), .int (nI i)]) (n := 3) (Nat.le_of_ble_eq_true rfl)
  rw [lg_entry_eq]
  generalize (lg_sl ([.ref ob, .int (nI z), .int (nI i)]) ++ List.replicate (3 - (lg_sl ([.ref ob, .int (nI z), .int (nI i)])).length) Slot.unset).toArray = ls at hl ⊢
  have hl : lv_has ls 3 [(0, .ref ob), (1, .int (nI z)), (2, .int (nI i))] := hl
  refine lv_aload_n hx hb d_Model_isChosen_0 rfl (lv_at hl 0 rfl) ?_
  refine lv_iload_n hx hb d_Model_isChosen_1 rfl (lv_at hl 1 rfl) ?_
  refine lv_iload_n hx hb d_Model_isChosen_2 rfl (lv_at hl 2 rfl) ?_
  refine vp_callSi (va_Run.run (sy_runV (As := [.int (nI z), .int (nI i)]) (rest := []) (b := ob) ⟨hx, hb, hml, hown, ht⟩ cl_Model_109 (c_Model_isHere l G ob ad sc mI mL mZ z i (by omega) (by omega)) hK hP (va_recv hK.1 hP (ci := 7) (q0 := 0) rfl rfl) rfl nm_Model_isHere rfl rfl ⟨Nat.le_of_ble_eq_true rfl, Nat.le_of_ble_eq_true rfl⟩ hl.1 (Nat.le_of_ble_eq_true rfl) d_Model_isChosen_3 ⟨Nat.zero_le _, Nat.zero_le _⟩)) (fun r_1 hr_1 => ?_)
  subst hr_1
  refine lv_if_eq (tgt := 27) hx hb d_Model_isChosen_6 (by decide) (fun c_2 => ?_) (fun c_2 => ?_)
  · have c_2 : (mo_he mI mL mZ z i) = false := bI_f c_2
    refine lv_iconst (v := 0) hx hb d_Model_isChosen_27 (by decide) ?_
    exact W.zret (v := (0 : Int32)) hx hb hr (rfl) (fun t ht hW => ⟨(0 : Int32), rfl, by simp [bI, mo_cs, c_2], ht⟩) (fun q h => by cases h) d_Model_isChosen_28
  · have c_2 : (mo_he mI mL mZ z i) = true := bI_t c_2
    refine lv_aload_n hx hb d_Model_isChosen_9 rfl (lv_at hl 0 rfl) ?_
    refine va_get (D := G.1) (ci := 7) (v := .ref (ad 11)) (C := R_Model) (T := F_Model) (N := 23) hx hb ht i_Model hown hK.1 hP 0 rfl rfl 16 (by decide) (ht _ m_521) (fun _ h9 => h9) rfl d_Model_isChosen_10 ?_
    refine lv_bipush (v := 60) hx hb d_Model_isChosen_13 (by decide) ?_
    refine lv_iload_n hx hb d_Model_isChosen_15 rfl (lv_at hl 1 rfl) ?_
    refine lv_imul hx hb d_Model_isChosen_16 ?_
    refine sy_ti (y := nI (60 * z)) (pk_mul 60 z) ?_
    refine lv_iload_n hx hb d_Model_isChosen_17 rfl (lv_at hl 2 rfl) ?_
    refine lv_iadd hx hb d_Model_isChosen_18 ?_
    refine sy_ti (y := nI ((60 * z) + i)) (nI_add (60 * z) i) ?_
    refine sy_zald hx hb hK.1 hP 12 2 rfl rfl (k := (60 * z) + i) (by omega) (by decide) d_Model_isChosen_19 ?_
    refine lv_if_eq (tgt := 27) hx hb d_Model_isChosen_20 (by decide) (fun c_3 => ?_) (fun c_3 => ?_)
    · have c_3 : (mZ 11 ((60 * z) + i)) = false := bI_f c_3
      refine lv_iconst (v := 0) hx hb d_Model_isChosen_27 (by decide) ?_
      exact W.zret (v := (0 : Int32)) hx hb hr (rfl) (fun t ht hW => ⟨(0 : Int32), rfl, by simp [bI, mo_cs, c_2, c_3], ht⟩) (fun q h => by cases h) d_Model_isChosen_28
    · have c_3 : (mZ 11 ((60 * z) + i)) = true := bI_t c_3
      refine lv_iconst (v := 1) hx hb d_Model_isChosen_23 (by decide) ?_
      refine lv_goto (tgt := 28) hx hb d_Model_isChosen_24 (by decide) ?_
      exact W.zret (v := (1 : Int32)) hx hb hr (rfl) (fun t ht hW => ⟨(1 : Int32), rfl, by simp [bI, mo_cs, c_2, c_3], ht⟩) (fun q h => by cases h) d_Model_isChosen_28
set_option maxHeartbeats 4000000 in
set_option maxRecDepth 100000 in
theorem c_Model_isSameKey (l : Launch) (G : sy_G) (ob : Nat) (ad : Nat → Nat) (sc : Nat → Nat) (mI : Nat → Nat → Int32) (mL : Nat → Nat → Int64) (mZ : Nat → Nat → Bool) (i : Nat) (j : Nat) (hi : i < 60) (hj : j < 60) : Met l y_Model_isSameKey (sy_w y_Model_isSameKey b_Model_isSameKey 3 (some .boolean)) { frames := 0, cells := 0, slots := 0, locals := 0 } (va_Pc [.ref ob, .int (nI i), .int (nI j)] (sy_KP G (va_P G.1 classes (mw G.2 ob ad sc mI mL mZ)))) (vp_Si (fun r => r = bI (mo_sk mI i j))) 0 0 (fun _ => False) := by
  refine Met.ofW (cc := b_Model_isSameKey) (maxL := 3) (ret := (some .boolean)) (by decide) rfl ?_
  intro p e s m args below meth c s₁ B hml hv
  obtain ⟨rfl, hP, hK⟩ := hv
  have hx := B.exec
  have hb := B.bytes
  have hr := B.returns
  have hts := atoms_spec (ws := sy_w y_Model_isSameKey b_Model_isSameKey 3 (some .boolean)) B.pre
  have ht : ∀ wd ∈ sy_T, wd.before ([.ref ob, .int (nI i), .int (nI j)] : List Value).toArray s = true := fun wd h => hts wd (List.mem_cons_of_mem _ h)
  have hown : s.vm.findClass R_Model = some m.cls := findClass_of_methodNamed B.named
  have hlocks := B.notSynchronized
  have hl := lv_entry ([.ref ob, .int (nI i), .int (nI j)]) (n := 3) (Nat.le_of_ble_eq_true rfl)
  rw [lg_entry_eq]
  generalize (lg_sl ([.ref ob, .int (nI i), .int (nI j)]) ++ List.replicate (3 - (lg_sl ([.ref ob, .int (nI i), .int (nI j)])).length) Slot.unset).toArray = ls at hl ⊢
  have hl : lv_has ls 3 [(0, .ref ob), (1, .int (nI i)), (2, .int (nI j))] := hl
  refine lv_aload_n hx hb d_Model_isSameKey_0 rfl (lv_at hl 0 rfl) ?_
  refine va_get (D := G.1) (ci := 7) (v := .ref (ad 2)) (C := R_Model) (T := F_Model) (N := 23) hx hb ht i_Model hown hK.1 hP 0 rfl rfl 4 (by decide) (ht _ m_509) (fun _ h9 => h9) rfl d_Model_isSameKey_1 ?_
  refine lv_iload_n hx hb d_Model_isSameKey_4 rfl (lv_at hl 1 rfl) ?_
  refine sy_iald hx hb hK.1 hP 3 0 rfl rfl (k := i) (by omega) (by decide) d_Model_isSameKey_5 ?_
  refine lv_aload_n hx hb d_Model_isSameKey_6 rfl (lv_at hl 0 rfl) ?_
  refine va_get (D := G.1) (ci := 7) (v := .ref (ad 2)) (C := R_Model) (T := F_Model) (N := 23) hx hb ht i_Model hown hK.1 hP 0 rfl rfl 4 (by decide) (ht _ m_509) (fun _ h9 => h9) rfl d_Model_isSameKey_7 ?_
  refine lv_iload_n hx hb d_Model_isSameKey_10 rfl (lv_at hl 2 rfl) ?_
  refine sy_iald hx hb hK.1 hP 3 0 rfl rfl (k := j) (by omega) (by decide) d_Model_isSameKey_11 ?_
  refine lv_icmp_ne (tgt := 64) hx hb d_Model_isSameKey_12 (by decide) (fun c_1 => ?_) (fun c_1 => ?_)
  · refine lv_iconst (v := 0) hx hb d_Model_isSameKey_64 (by decide) ?_
    exact W.zret (v := (0 : Int32)) hx hb hr (rfl) (fun t ht hW => ⟨(0 : Int32), rfl, by simp [bI, mo_sk, c_1], ht⟩) (fun q h => by cases h) d_Model_isSameKey_65
  · refine lv_aload_n hx hb d_Model_isSameKey_15 rfl (lv_at hl 0 rfl) ?_
    refine va_get (D := G.1) (ci := 7) (v := .ref (ad 3)) (C := R_Model) (T := F_Model) (N := 23) hx hb ht i_Model hown hK.1 hP 0 rfl rfl 5 (by decide) (ht _ m_510) (fun _ h9 => h9) rfl d_Model_isSameKey_16 ?_
    refine lv_iload_n hx hb d_Model_isSameKey_19 rfl (lv_at hl 1 rfl) ?_
    refine sy_iald hx hb hK.1 hP 4 0 rfl rfl (k := i) (by omega) (by decide) d_Model_isSameKey_20 ?_
    refine lv_aload_n hx hb d_Model_isSameKey_21 rfl (lv_at hl 0 rfl) ?_
    refine va_get (D := G.1) (ci := 7) (v := .ref (ad 3)) (C := R_Model) (T := F_Model) (N := 23) hx hb ht i_Model hown hK.1 hP 0 rfl rfl 5 (by decide) (ht _ m_510) (fun _ h9 => h9) rfl d_Model_isSameKey_22 ?_
    refine lv_iload_n hx hb d_Model_isSameKey_25 rfl (lv_at hl 2 rfl) ?_
    refine sy_iald hx hb hK.1 hP 4 0 rfl rfl (k := j) (by omega) (by decide) d_Model_isSameKey_26 ?_
    refine lv_icmp_ne (tgt := 64) hx hb d_Model_isSameKey_27 (by decide) (fun c_2 => ?_) (fun c_2 => ?_)
    · refine lv_iconst (v := 0) hx hb d_Model_isSameKey_64 (by decide) ?_
      exact W.zret (v := (0 : Int32)) hx hb hr (rfl) (fun t ht hW => ⟨(0 : Int32), rfl, by simp [bI, mo_sk, c_1, c_2], ht⟩) (fun q h => by cases h) d_Model_isSameKey_65
    · refine lv_aload_n hx hb d_Model_isSameKey_30 rfl (lv_at hl 0 rfl) ?_
      refine va_get (D := G.1) (ci := 7) (v := .ref (ad 4)) (C := R_Model) (T := F_Model) (N := 23) hx hb ht i_Model hown hK.1 hP 0 rfl rfl 6 (by decide) (ht _ m_511) (fun _ h9 => h9) rfl d_Model_isSameKey_31 ?_
      refine lv_iload_n hx hb d_Model_isSameKey_34 rfl (lv_at hl 1 rfl) ?_
      refine sy_iald hx hb hK.1 hP 5 0 rfl rfl (k := i) (by omega) (by decide) d_Model_isSameKey_35 ?_
      refine lv_aload_n hx hb d_Model_isSameKey_36 rfl (lv_at hl 0 rfl) ?_
      refine va_get (D := G.1) (ci := 7) (v := .ref (ad 4)) (C := R_Model) (T := F_Model) (N := 23) hx hb ht i_Model hown hK.1 hP 0 rfl rfl 6 (by decide) (ht _ m_511) (fun _ h9 => h9) rfl d_Model_isSameKey_37 ?_
      refine lv_iload_n hx hb d_Model_isSameKey_40 rfl (lv_at hl 2 rfl) ?_
      refine sy_iald hx hb hK.1 hP 5 0 rfl rfl (k := j) (by omega) (by decide) d_Model_isSameKey_41 ?_
      refine lv_icmp_ne (tgt := 64) hx hb d_Model_isSameKey_42 (by decide) (fun c_3 => ?_) (fun c_3 => ?_)
      · refine lv_iconst (v := 0) hx hb d_Model_isSameKey_64 (by decide) ?_
        exact W.zret (v := (0 : Int32)) hx hb hr (rfl) (fun t ht hW => ⟨(0 : Int32), rfl, by simp [bI, mo_sk, c_1, c_2, c_3], ht⟩) (fun q h => by cases h) d_Model_isSameKey_65
      · refine lv_aload_n hx hb d_Model_isSameKey_45 rfl (lv_at hl 0 rfl) ?_
        refine va_get (D := G.1) (ci := 7) (v := .ref (ad 5)) (C := R_Model) (T := F_Model) (N := 23) hx hb ht i_Model hown hK.1 hP 0 rfl rfl 7 (by decide) (ht _ m_512) (fun _ h9 => h9) rfl d_Model_isSameKey_46 ?_
        refine lv_iload_n hx hb d_Model_isSameKey_49 rfl (lv_at hl 1 rfl) ?_
        refine sy_iald hx hb hK.1 hP 6 0 rfl rfl (k := i) (by omega) (by decide) d_Model_isSameKey_50 ?_
        refine lv_aload_n hx hb d_Model_isSameKey_51 rfl (lv_at hl 0 rfl) ?_
        refine va_get (D := G.1) (ci := 7) (v := .ref (ad 5)) (C := R_Model) (T := F_Model) (N := 23) hx hb ht i_Model hown hK.1 hP 0 rfl rfl 7 (by decide) (ht _ m_512) (fun _ h9 => h9) rfl d_Model_isSameKey_52 ?_
        refine lv_iload_n hx hb d_Model_isSameKey_55 rfl (lv_at hl 2 rfl) ?_
        refine sy_iald hx hb hK.1 hP 6 0 rfl rfl (k := j) (by omega) (by decide) d_Model_isSameKey_56 ?_
        refine lv_icmp_ne (tgt := 64) hx hb d_Model_isSameKey_57 (by decide) (fun c_4 => ?_) (fun c_4 => ?_)
        · refine lv_iconst (v := 0) hx hb d_Model_isSameKey_64 (by decide) ?_
          exact W.zret (v := (0 : Int32)) hx hb hr (rfl) (fun t ht hW => ⟨(0 : Int32), rfl, by simp [bI, mo_sk, c_1, c_2, c_3, c_4], ht⟩) (fun q h => by cases h) d_Model_isSameKey_65
        · refine lv_iconst (v := 1) hx hb d_Model_isSameKey_60 (by decide) ?_
          refine lv_goto (tgt := 65) hx hb d_Model_isSameKey_61 (by decide) ?_
          exact W.zret (v := (1 : Int32)) hx hb hr (rfl) (fun t ht hW => ⟨(1 : Int32), rfl, by simp [bI, mo_sk, c_1, c_2, c_3, c_4], ht⟩) (fun q h => by cases h) d_Model_isSameKey_65
set_option maxHeartbeats 4000000 in
set_option maxRecDepth 100000 in
theorem c_Model_isBefore (l : Launch) (G : sy_G) (ob : Nat) (ad : Nat → Nat) (sc : Nat → Nat) (mI : Nat → Nat → Int32) (mL : Nat → Nat → Int64) (mZ : Nat → Nat → Bool) (i : Nat) (j : Nat) (hi : i < 60) (hj : j < 60) : Met l y_Model_isBefore (sy_w y_Model_isBefore b_Model_isBefore 3 (some .boolean)) { frames := 0, cells := 0, slots := 0, locals := 0 } (va_Pc [.ref ob, .int (nI i), .int (nI j)] (sy_KP G (va_P G.1 classes (mw G.2 ob ad sc mI mL mZ)))) (vp_Si (fun r => r = bI (mo_bf mI mL i j))) 0 0 (fun _ => False) := by
  refine Met.ofW (cc := b_Model_isBefore) (maxL := 3) (ret := (some .boolean)) (by decide) rfl ?_
  intro p e s m args below meth c s₁ B hml hv
  obtain ⟨rfl, hP, hK⟩ := hv
  have hx := B.exec
  have hb := B.bytes
  have hr := B.returns
  have hts := atoms_spec (ws := sy_w y_Model_isBefore b_Model_isBefore 3 (some .boolean)) B.pre
  have ht : ∀ wd ∈ sy_T, wd.before ([.ref ob, .int (nI i), .int (nI j)] : List Value).toArray s = true := fun wd h => hts wd (List.mem_cons_of_mem _ h)
  have hown : s.vm.findClass R_Model = some m.cls := findClass_of_methodNamed B.named
  have hlocks := B.notSynchronized
  have hl := lv_entry ([.ref ob, .int (nI i), .int (nI j)]) (n := 3) (Nat.le_of_ble_eq_true rfl)
  rw [lg_entry_eq]
  generalize (lg_sl ([.ref ob, .int (nI i), .int (nI j)]) ++ List.replicate (3 - (lg_sl ([.ref ob, .int (nI i), .int (nI j)])).length) Slot.unset).toArray = ls at hl ⊢
  have hl : lv_has ls 3 [(0, .ref ob), (1, .int (nI i)), (2, .int (nI j))] := hl
  refine lv_aload_n hx hb d_Model_isBefore_0 rfl (lv_at hl 0 rfl) ?_
  refine va_get (D := G.1) (ci := 7) (v := .ref (ad 6)) (C := R_Model) (T := F_Model) (N := 23) hx hb ht i_Model hown hK.1 hP 0 rfl rfl 8 (by decide) (ht _ m_513) (fun _ h9 => h9) rfl d_Model_isBefore_1 ?_
  refine lv_iload_n hx hb d_Model_isBefore_4 rfl (lv_at hl 1 rfl) ?_
  refine sy_iald hx hb hK.1 hP 7 0 rfl rfl (k := i) (by omega) (by decide) d_Model_isBefore_5 ?_
  refine lv_aload_n hx hb d_Model_isBefore_6 rfl (lv_at hl 0 rfl) ?_
  refine va_get (D := G.1) (ci := 7) (v := .ref (ad 6)) (C := R_Model) (T := F_Model) (N := 23) hx hb ht i_Model hown hK.1 hP 0 rfl rfl 8 (by decide) (ht _ m_513) (fun _ h9 => h9) rfl d_Model_isBefore_7 ?_
  refine lv_iload_n hx hb d_Model_isBefore_10 rfl (lv_at hl 2 rfl) ?_
  refine sy_iald hx hb hK.1 hP 7 0 rfl rfl (k := j) (by omega) (by decide) d_Model_isBefore_11 ?_
  refine lv_icmp_eq (tgt := 38) hx hb d_Model_isBefore_12 (by decide) (fun c_1 => ?_) (fun c_1 => ?_)
  · refine lv_aload_n hx hb d_Model_isBefore_38 rfl (lv_at hl 0 rfl) ?_
    refine va_get (D := G.1) (ci := 7) (v := .ref (ad 7)) (C := R_Model) (T := F_Model) (N := 23) hx hb ht i_Model hown hK.1 hP 0 rfl rfl 9 (by decide) (ht _ m_514) (fun _ h9 => h9) rfl d_Model_isBefore_39 ?_
    refine lv_iload_n hx hb d_Model_isBefore_42 rfl (lv_at hl 1 rfl) ?_
    refine sy_lald hx hb hK.1 hP 8 1 rfl rfl (k := i) (by omega) (by decide) d_Model_isBefore_43 ?_
    refine lv_aload_n hx hb d_Model_isBefore_44 rfl (lv_at hl 0 rfl) ?_
    refine va_get (D := G.1) (ci := 7) (v := .ref (ad 7)) (C := R_Model) (T := F_Model) (N := 23) hx hb ht i_Model hown hK.1 hP 0 rfl rfl 9 (by decide) (ht _ m_514) (fun _ h9 => h9) rfl d_Model_isBefore_45 ?_
    refine lv_iload_n hx hb d_Model_isBefore_48 rfl (lv_at hl 2 rfl) ?_
    refine sy_lald hx hb hK.1 hP 8 1 rfl rfl (k := j) (by omega) (by decide) d_Model_isBefore_49 ?_
    refine sy_lc_ge (tgt := 58) hx hb d_Model_isBefore_50 d_Model_isBefore_51 (by decide) (fun c_2 => ?_) (fun c_2 => ?_)
    · have c_2n := sy_c64 c_2
      refine lv_iconst (v := 0) hx hb d_Model_isBefore_58 (by decide) ?_
      exact W.zret (v := (0 : Int32)) hx hb hr (rfl) (fun t ht hW => ⟨(0 : Int32), rfl, by simp [bI, mo_bf, c_1, c_2, c_2n], ht⟩) (fun q h => by cases h) d_Model_isBefore_59
    · have c_2n := sy_d64 c_2
      refine lv_iconst (v := 1) hx hb d_Model_isBefore_54 (by decide) ?_
      refine lv_goto (tgt := 59) hx hb d_Model_isBefore_55 (by decide) ?_
      exact W.zret (v := (1 : Int32)) hx hb hr (rfl) (fun t ht hW => ⟨(1 : Int32), rfl, by simp [bI, mo_bf, c_1, c_2, c_2n], ht⟩) (fun q h => by cases h) d_Model_isBefore_59
  · refine lv_aload_n hx hb d_Model_isBefore_15 rfl (lv_at hl 0 rfl) ?_
    refine va_get (D := G.1) (ci := 7) (v := .ref (ad 6)) (C := R_Model) (T := F_Model) (N := 23) hx hb ht i_Model hown hK.1 hP 0 rfl rfl 8 (by decide) (ht _ m_513) (fun _ h9 => h9) rfl d_Model_isBefore_16 ?_
    refine lv_iload_n hx hb d_Model_isBefore_19 rfl (lv_at hl 1 rfl) ?_
    refine sy_iald hx hb hK.1 hP 7 0 rfl rfl (k := i) (by omega) (by decide) d_Model_isBefore_20 ?_
    refine lv_aload_n hx hb d_Model_isBefore_21 rfl (lv_at hl 0 rfl) ?_
    refine va_get (D := G.1) (ci := 7) (v := .ref (ad 6)) (C := R_Model) (T := F_Model) (N := 23) hx hb ht i_Model hown hK.1 hP 0 rfl rfl 8 (by decide) (ht _ m_513) (fun _ h9 => h9) rfl d_Model_isBefore_22 ?_
    refine lv_iload_n hx hb d_Model_isBefore_25 rfl (lv_at hl 2 rfl) ?_
    refine sy_iald hx hb hK.1 hP 7 0 rfl rfl (k := j) (by omega) (by decide) d_Model_isBefore_26 ?_
    refine lv_icmp_ge (tgt := 34) hx hb d_Model_isBefore_27 (by decide) (fun c_3 => ?_) (fun c_3 => ?_)
    · have c_3n := sy_c32 c_3
      refine lv_iconst (v := 0) hx hb d_Model_isBefore_34 (by decide) ?_
      refine lv_goto (tgt := 59) hx hb d_Model_isBefore_35 (by decide) ?_
      exact W.zret (v := (0 : Int32)) hx hb hr (rfl) (fun t ht hW => ⟨(0 : Int32), rfl, by simp [bI, mo_bf, c_1, c_3, c_3n], ht⟩) (fun q h => by cases h) d_Model_isBefore_59
    · have c_3n := sy_d32 c_3
      refine lv_iconst (v := 1) hx hb d_Model_isBefore_30 (by decide) ?_
      refine lv_goto (tgt := 59) hx hb d_Model_isBefore_31 (by decide) ?_
      exact W.zret (v := (1 : Int32)) hx hb hr (rfl) (fun t ht hW => ⟨(1 : Int32), rfl, by simp [bI, mo_bf, c_1, c_3, c_3n], ht⟩) (fun q h => by cases h) d_Model_isBefore_59
set_option maxHeartbeats 4000000 in
set_option maxRecDepth 100000 in
theorem c_Model_isLater (l : Launch) (G : sy_G) (ob : Nat) (ad : Nat → Nat) (sc : Nat → Nat) (mI : Nat → Nat → Int32) (mL : Nat → Nat → Int64) (mZ : Nat → Nat → Bool) (i : Nat) (j : Nat) (hi : i < 60) (hj : j < 60) : Met l y_Model_isLater (sy_w y_Model_isLater b_Model_isLater 3 (some .boolean)) { frames := 0, cells := 0, slots := 0, locals := 0 } (va_Pc [.ref ob, .int (nI i), .int (nI j)] (sy_KP G (va_P G.1 classes (mw G.2 ob ad sc mI mL mZ)))) (vp_Si (fun r => r = bI (mo_lt mI i j))) 0 0 (fun _ => False) := by
  refine Met.ofW (cc := b_Model_isLater) (maxL := 3) (ret := (some .boolean)) (by decide) rfl ?_
  intro p e s m args below meth c s₁ B hml hv
  obtain ⟨rfl, hP, hK⟩ := hv
  have hx := B.exec
  have hb := B.bytes
  have hr := B.returns
  have hts := atoms_spec (ws := sy_w y_Model_isLater b_Model_isLater 3 (some .boolean)) B.pre
  have ht : ∀ wd ∈ sy_T, wd.before ([.ref ob, .int (nI i), .int (nI j)] : List Value).toArray s = true := fun wd h => hts wd (List.mem_cons_of_mem _ h)
  have hown : s.vm.findClass R_Model = some m.cls := findClass_of_methodNamed B.named
  have hlocks := B.notSynchronized
  have hl := lv_entry ([.ref ob, .int (nI i), .int (nI j)]) (n := 3) (Nat.le_of_ble_eq_true rfl)
  rw [lg_entry_eq]
  generalize (lg_sl ([.ref ob, .int (nI i), .int (nI j)]) ++ List.replicate (3 - (lg_sl ([.ref ob, .int (nI i), .int (nI j)])).length) Slot.unset).toArray = ls at hl ⊢
  have hl : lv_has ls 3 [(0, .ref ob), (1, .int (nI i)), (2, .int (nI j))] := hl
  refine lv_aload_n hx hb d_Model_isLater_0 rfl (lv_at hl 0 rfl) ?_
  refine va_get (D := G.1) (ci := 7) (v := .ref (ad 6)) (C := R_Model) (T := F_Model) (N := 23) hx hb ht i_Model hown hK.1 hP 0 rfl rfl 8 (by decide) (ht _ m_513) (fun _ h9 => h9) rfl d_Model_isLater_1 ?_
  refine lv_iload_n hx hb d_Model_isLater_4 rfl (lv_at hl 1 rfl) ?_
  refine sy_iald hx hb hK.1 hP 7 0 rfl rfl (k := i) (by omega) (by decide) d_Model_isLater_5 ?_
  refine lv_aload_n hx hb d_Model_isLater_6 rfl (lv_at hl 0 rfl) ?_
  refine va_get (D := G.1) (ci := 7) (v := .ref (ad 6)) (C := R_Model) (T := F_Model) (N := 23) hx hb ht i_Model hown hK.1 hP 0 rfl rfl 8 (by decide) (ht _ m_513) (fun _ h9 => h9) rfl d_Model_isLater_7 ?_
  refine lv_iload_n hx hb d_Model_isLater_10 rfl (lv_at hl 2 rfl) ?_
  refine sy_iald hx hb hK.1 hP 7 0 rfl rfl (k := j) (by omega) (by decide) d_Model_isLater_11 ?_
  refine lv_icmp_eq (tgt := 36) hx hb d_Model_isLater_12 (by decide) (fun c_1 => ?_) (fun c_1 => ?_)
  · refine lv_aload_n hx hb d_Model_isLater_36 rfl (lv_at hl 0 rfl) ?_
    refine va_get (D := G.1) (ci := 7) (v := .ref (ad 3)) (C := R_Model) (T := F_Model) (N := 23) hx hb ht i_Model hown hK.1 hP 0 rfl rfl 5 (by decide) (ht _ m_510) (fun _ h9 => h9) rfl d_Model_isLater_37 ?_
    refine lv_iload_n hx hb d_Model_isLater_40 rfl (lv_at hl 1 rfl) ?_
    refine sy_iald hx hb hK.1 hP 4 0 rfl rfl (k := i) (by omega) (by decide) d_Model_isLater_41 ?_
    refine lv_aload_n hx hb d_Model_isLater_42 rfl (lv_at hl 0 rfl) ?_
    refine va_get (D := G.1) (ci := 7) (v := .ref (ad 3)) (C := R_Model) (T := F_Model) (N := 23) hx hb ht i_Model hown hK.1 hP 0 rfl rfl 5 (by decide) (ht _ m_510) (fun _ h9 => h9) rfl d_Model_isLater_43 ?_
    refine lv_iload_n hx hb d_Model_isLater_46 rfl (lv_at hl 2 rfl) ?_
    refine sy_iald hx hb hK.1 hP 4 0 rfl rfl (k := j) (by omega) (by decide) d_Model_isLater_47 ?_
    refine lv_icmp_eq (tgt := 74) hx hb d_Model_isLater_48 (by decide) (fun c_2 => ?_) (fun c_2 => ?_)
    · refine lv_aload_n hx hb d_Model_isLater_74 rfl (lv_at hl 0 rfl) ?_
      refine va_get (D := G.1) (ci := 7) (v := .ref (ad 4)) (C := R_Model) (T := F_Model) (N := 23) hx hb ht i_Model hown hK.1 hP 0 rfl rfl 6 (by decide) (ht _ m_511) (fun _ h9 => h9) rfl d_Model_isLater_75 ?_
      refine lv_iload_n hx hb d_Model_isLater_78 rfl (lv_at hl 1 rfl) ?_
      refine sy_iald hx hb hK.1 hP 5 0 rfl rfl (k := i) (by omega) (by decide) d_Model_isLater_79 ?_
      refine lv_aload_n hx hb d_Model_isLater_80 rfl (lv_at hl 0 rfl) ?_
      refine va_get (D := G.1) (ci := 7) (v := .ref (ad 4)) (C := R_Model) (T := F_Model) (N := 23) hx hb ht i_Model hown hK.1 hP 0 rfl rfl 6 (by decide) (ht _ m_511) (fun _ h9 => h9) rfl d_Model_isLater_81 ?_
      refine lv_iload_n hx hb d_Model_isLater_84 rfl (lv_at hl 2 rfl) ?_
      refine sy_iald hx hb hK.1 hP 5 0 rfl rfl (k := j) (by omega) (by decide) d_Model_isLater_85 ?_
      refine lv_icmp_le (tgt := 93) hx hb d_Model_isLater_86 (by decide) (fun c_3 => ?_) (fun c_3 => ?_)
      · have c_3n := sy_c32 c_3
        refine lv_iconst (v := 0) hx hb d_Model_isLater_93 (by decide) ?_
        exact W.zret (v := (0 : Int32)) hx hb hr (rfl) (fun t ht hW => ⟨(0 : Int32), rfl, by simp [bI, mo_lt, c_1, c_2, c_3, c_3n], ht⟩) (fun q h => by cases h) d_Model_isLater_94
      · have c_3n := sy_d32 c_3
        refine lv_iconst (v := 1) hx hb d_Model_isLater_89 (by decide) ?_
        refine lv_goto (tgt := 94) hx hb d_Model_isLater_90 (by decide) ?_
        exact W.zret (v := (1 : Int32)) hx hb hr (rfl) (fun t ht hW => ⟨(1 : Int32), rfl, by simp [bI, mo_lt, c_1, c_2, c_3, c_3n], ht⟩) (fun q h => by cases h) d_Model_isLater_94
    · refine lv_aload_n hx hb d_Model_isLater_51 rfl (lv_at hl 0 rfl) ?_
      refine va_get (D := G.1) (ci := 7) (v := .ref (ad 3)) (C := R_Model) (T := F_Model) (N := 23) hx hb ht i_Model hown hK.1 hP 0 rfl rfl 5 (by decide) (ht _ m_510) (fun _ h9 => h9) rfl d_Model_isLater_52 ?_
      refine lv_iload_n hx hb d_Model_isLater_55 rfl (lv_at hl 1 rfl) ?_
      refine sy_iald hx hb hK.1 hP 4 0 rfl rfl (k := i) (by omega) (by decide) d_Model_isLater_56 ?_
      refine lv_aload_n hx hb d_Model_isLater_57 rfl (lv_at hl 0 rfl) ?_
      refine va_get (D := G.1) (ci := 7) (v := .ref (ad 3)) (C := R_Model) (T := F_Model) (N := 23) hx hb ht i_Model hown hK.1 hP 0 rfl rfl 5 (by decide) (ht _ m_510) (fun _ h9 => h9) rfl d_Model_isLater_58 ?_
      refine lv_iload_n hx hb d_Model_isLater_61 rfl (lv_at hl 2 rfl) ?_
      refine sy_iald hx hb hK.1 hP 4 0 rfl rfl (k := j) (by omega) (by decide) d_Model_isLater_62 ?_
      refine lv_icmp_le (tgt := 70) hx hb d_Model_isLater_63 (by decide) (fun c_4 => ?_) (fun c_4 => ?_)
      · have c_4n := sy_c32 c_4
        refine lv_iconst (v := 0) hx hb d_Model_isLater_70 (by decide) ?_
        refine lv_goto (tgt := 94) hx hb d_Model_isLater_71 (by decide) ?_
        exact W.zret (v := (0 : Int32)) hx hb hr (rfl) (fun t ht hW => ⟨(0 : Int32), rfl, by simp [bI, mo_lt, c_1, c_2, c_4, c_4n], ht⟩) (fun q h => by cases h) d_Model_isLater_94
      · have c_4n := sy_d32 c_4
        refine lv_iconst (v := 1) hx hb d_Model_isLater_66 (by decide) ?_
        refine lv_goto (tgt := 94) hx hb d_Model_isLater_67 (by decide) ?_
        exact W.zret (v := (1 : Int32)) hx hb hr (rfl) (fun t ht hW => ⟨(1 : Int32), rfl, by simp [bI, mo_lt, c_1, c_2, c_4, c_4n], ht⟩) (fun q h => by cases h) d_Model_isLater_94
  · refine lv_aload_n hx hb d_Model_isLater_15 rfl (lv_at hl 0 rfl) ?_
    refine va_get (D := G.1) (ci := 7) (v := .ref (ad 6)) (C := R_Model) (T := F_Model) (N := 23) hx hb ht i_Model hown hK.1 hP 0 rfl rfl 8 (by decide) (ht _ m_513) (fun _ h9 => h9) rfl d_Model_isLater_16 ?_
    refine lv_iload_n hx hb d_Model_isLater_19 rfl (lv_at hl 1 rfl) ?_
    refine sy_iald hx hb hK.1 hP 7 0 rfl rfl (k := i) (by omega) (by decide) d_Model_isLater_20 ?_
    refine lv_aload_n hx hb d_Model_isLater_21 rfl (lv_at hl 0 rfl) ?_
    refine va_get (D := G.1) (ci := 7) (v := .ref (ad 6)) (C := R_Model) (T := F_Model) (N := 23) hx hb ht i_Model hown hK.1 hP 0 rfl rfl 8 (by decide) (ht _ m_513) (fun _ h9 => h9) rfl d_Model_isLater_22 ?_
    refine lv_iload_n hx hb d_Model_isLater_25 rfl (lv_at hl 2 rfl) ?_
    refine sy_iald hx hb hK.1 hP 7 0 rfl rfl (k := j) (by omega) (by decide) d_Model_isLater_26 ?_
    refine lv_icmp_le (tgt := 34) hx hb d_Model_isLater_27 (by decide) (fun c_5 => ?_) (fun c_5 => ?_)
    · have c_5n := sy_c32 c_5
      refine lv_iconst (v := 0) hx hb d_Model_isLater_34 (by decide) ?_
      exact W.zret (v := (0 : Int32)) hx hb hr (rfl) (fun t ht hW => ⟨(0 : Int32), rfl, by simp [bI, mo_lt, c_1, c_5, c_5n], ht⟩) (fun q h => by cases h) d_Model_isLater_35
    · have c_5n := sy_d32 c_5
      refine lv_iconst (v := 1) hx hb d_Model_isLater_30 (by decide) ?_
      refine lv_goto (tgt := 35) hx hb d_Model_isLater_31 (by decide) ?_
      exact W.zret (v := (1 : Int32)) hx hb hr (rfl) (fun t ht hW => ⟨(1 : Int32), rfl, by simp [bI, mo_lt, c_1, c_5, c_5n], ht⟩) (fun q h => by cases h) d_Model_isLater_35
set_option maxHeartbeats 4000000 in
set_option maxRecDepth 100000 in
theorem c_Model_isKeyBefore (l : Launch) (G : sy_G) (ob : Nat) (ad : Nat → Nat) (sc : Nat → Nat) (mI : Nat → Nat → Int32) (mL : Nat → Nat → Int64) (mZ : Nat → Nat → Bool) (i : Nat) (j : Nat) (hi : i < 60) (hj : j < 60) : Met l y_Model_isKeyBefore (sy_w y_Model_isKeyBefore b_Model_isKeyBefore 3 (some .boolean)) { frames := 0, cells := 0, slots := 0, locals := 0 } (va_Pc [.ref ob, .int (nI i), .int (nI j)] (sy_KP G (va_P G.1 classes (mw G.2 ob ad sc mI mL mZ)))) (vp_Si (fun r => r = bI (mo_kb mI i j))) 0 0 (fun _ => False) := by
  refine Met.ofW (cc := b_Model_isKeyBefore) (maxL := 3) (ret := (some .boolean)) (by decide) rfl ?_
  intro p e s m args below meth c s₁ B hml hv
  obtain ⟨rfl, hP, hK⟩ := hv
  have hx := B.exec
  have hb := B.bytes
  have hr := B.returns
  have hts := atoms_spec (ws := sy_w y_Model_isKeyBefore b_Model_isKeyBefore 3 (some .boolean)) B.pre
  have ht : ∀ wd ∈ sy_T, wd.before ([.ref ob, .int (nI i), .int (nI j)] : List Value).toArray s = true := fun wd h => hts wd (List.mem_cons_of_mem _ h)
  have hown : s.vm.findClass R_Model = some m.cls := findClass_of_methodNamed B.named
  have hlocks := B.notSynchronized
  have hl := lv_entry ([.ref ob, .int (nI i), .int (nI j)]) (n := 3) (Nat.le_of_ble_eq_true rfl)
  rw [lg_entry_eq]
  generalize (lg_sl ([.ref ob, .int (nI i), .int (nI j)]) ++ List.replicate (3 - (lg_sl ([.ref ob, .int (nI i), .int (nI j)])).length) Slot.unset).toArray = ls at hl ⊢
  have hl : lv_has ls 3 [(0, .ref ob), (1, .int (nI i)), (2, .int (nI j))] := hl
  refine lv_aload_n hx hb d_Model_isKeyBefore_0 rfl (lv_at hl 0 rfl) ?_
  refine va_get (D := G.1) (ci := 7) (v := .ref (ad 2)) (C := R_Model) (T := F_Model) (N := 23) hx hb ht i_Model hown hK.1 hP 0 rfl rfl 4 (by decide) (ht _ m_509) (fun _ h9 => h9) rfl d_Model_isKeyBefore_1 ?_
  refine lv_iload_n hx hb d_Model_isKeyBefore_4 rfl (lv_at hl 1 rfl) ?_
  refine sy_iald hx hb hK.1 hP 3 0 rfl rfl (k := i) (by omega) (by decide) d_Model_isKeyBefore_5 ?_
  refine lv_aload_n hx hb d_Model_isKeyBefore_6 rfl (lv_at hl 0 rfl) ?_
  refine va_get (D := G.1) (ci := 7) (v := .ref (ad 2)) (C := R_Model) (T := F_Model) (N := 23) hx hb ht i_Model hown hK.1 hP 0 rfl rfl 4 (by decide) (ht _ m_509) (fun _ h9 => h9) rfl d_Model_isKeyBefore_7 ?_
  refine lv_iload_n hx hb d_Model_isKeyBefore_10 rfl (lv_at hl 2 rfl) ?_
  refine sy_iald hx hb hK.1 hP 3 0 rfl rfl (k := j) (by omega) (by decide) d_Model_isKeyBefore_11 ?_
  refine lv_icmp_eq (tgt := 36) hx hb d_Model_isKeyBefore_12 (by decide) (fun c_1 => ?_) (fun c_1 => ?_)
  · refine lv_aload_n hx hb d_Model_isKeyBefore_36 rfl (lv_at hl 0 rfl) ?_
    refine va_get (D := G.1) (ci := 7) (v := .ref (ad 3)) (C := R_Model) (T := F_Model) (N := 23) hx hb ht i_Model hown hK.1 hP 0 rfl rfl 5 (by decide) (ht _ m_510) (fun _ h9 => h9) rfl d_Model_isKeyBefore_37 ?_
    refine lv_iload_n hx hb d_Model_isKeyBefore_40 rfl (lv_at hl 1 rfl) ?_
    refine sy_iald hx hb hK.1 hP 4 0 rfl rfl (k := i) (by omega) (by decide) d_Model_isKeyBefore_41 ?_
    refine lv_aload_n hx hb d_Model_isKeyBefore_42 rfl (lv_at hl 0 rfl) ?_
    refine va_get (D := G.1) (ci := 7) (v := .ref (ad 3)) (C := R_Model) (T := F_Model) (N := 23) hx hb ht i_Model hown hK.1 hP 0 rfl rfl 5 (by decide) (ht _ m_510) (fun _ h9 => h9) rfl d_Model_isKeyBefore_43 ?_
    refine lv_iload_n hx hb d_Model_isKeyBefore_46 rfl (lv_at hl 2 rfl) ?_
    refine sy_iald hx hb hK.1 hP 4 0 rfl rfl (k := j) (by omega) (by decide) d_Model_isKeyBefore_47 ?_
    refine lv_icmp_eq (tgt := 72) hx hb d_Model_isKeyBefore_48 (by decide) (fun c_2 => ?_) (fun c_2 => ?_)
    · refine lv_aload_n hx hb d_Model_isKeyBefore_72 rfl (lv_at hl 0 rfl) ?_
      refine va_get (D := G.1) (ci := 7) (v := .ref (ad 4)) (C := R_Model) (T := F_Model) (N := 23) hx hb ht i_Model hown hK.1 hP 0 rfl rfl 6 (by decide) (ht _ m_511) (fun _ h9 => h9) rfl d_Model_isKeyBefore_73 ?_
      refine lv_iload_n hx hb d_Model_isKeyBefore_76 rfl (lv_at hl 1 rfl) ?_
      refine sy_iald hx hb hK.1 hP 5 0 rfl rfl (k := i) (by omega) (by decide) d_Model_isKeyBefore_77 ?_
      refine lv_aload_n hx hb d_Model_isKeyBefore_78 rfl (lv_at hl 0 rfl) ?_
      refine va_get (D := G.1) (ci := 7) (v := .ref (ad 4)) (C := R_Model) (T := F_Model) (N := 23) hx hb ht i_Model hown hK.1 hP 0 rfl rfl 6 (by decide) (ht _ m_511) (fun _ h9 => h9) rfl d_Model_isKeyBefore_79 ?_
      refine lv_iload_n hx hb d_Model_isKeyBefore_82 rfl (lv_at hl 2 rfl) ?_
      refine sy_iald hx hb hK.1 hP 5 0 rfl rfl (k := j) (by omega) (by decide) d_Model_isKeyBefore_83 ?_
      refine lv_icmp_eq (tgt := 110) hx hb d_Model_isKeyBefore_84 (by decide) (fun c_3 => ?_) (fun c_3 => ?_)
      · refine lv_aload_n hx hb d_Model_isKeyBefore_110 rfl (lv_at hl 0 rfl) ?_
        refine va_get (D := G.1) (ci := 7) (v := .ref (ad 5)) (C := R_Model) (T := F_Model) (N := 23) hx hb ht i_Model hown hK.1 hP 0 rfl rfl 7 (by decide) (ht _ m_512) (fun _ h9 => h9) rfl d_Model_isKeyBefore_111 ?_
        refine lv_iload_n hx hb d_Model_isKeyBefore_114 rfl (lv_at hl 1 rfl) ?_
        refine sy_iald hx hb hK.1 hP 6 0 rfl rfl (k := i) (by omega) (by decide) d_Model_isKeyBefore_115 ?_
        refine lv_aload_n hx hb d_Model_isKeyBefore_116 rfl (lv_at hl 0 rfl) ?_
        refine va_get (D := G.1) (ci := 7) (v := .ref (ad 5)) (C := R_Model) (T := F_Model) (N := 23) hx hb ht i_Model hown hK.1 hP 0 rfl rfl 7 (by decide) (ht _ m_512) (fun _ h9 => h9) rfl d_Model_isKeyBefore_117 ?_
        refine lv_iload_n hx hb d_Model_isKeyBefore_120 rfl (lv_at hl 2 rfl) ?_
        refine sy_iald hx hb hK.1 hP 6 0 rfl rfl (k := j) (by omega) (by decide) d_Model_isKeyBefore_121 ?_
        refine lv_icmp_ge (tgt := 129) hx hb d_Model_isKeyBefore_122 (by decide) (fun c_4 => ?_) (fun c_4 => ?_)
        · have c_4n := sy_c32 c_4
          refine lv_iconst (v := 0) hx hb d_Model_isKeyBefore_129 (by decide) ?_
          exact W.zret (v := (0 : Int32)) hx hb hr (rfl) (fun t ht hW => ⟨(0 : Int32), rfl, by simp [bI, mo_kb, c_1, c_2, c_3, c_4, c_4n], ht⟩) (fun q h => by cases h) d_Model_isKeyBefore_130
        · have c_4n := sy_d32 c_4
          refine lv_iconst (v := 1) hx hb d_Model_isKeyBefore_125 (by decide) ?_
          refine lv_goto (tgt := 130) hx hb d_Model_isKeyBefore_126 (by decide) ?_
          exact W.zret (v := (1 : Int32)) hx hb hr (rfl) (fun t ht hW => ⟨(1 : Int32), rfl, by simp [bI, mo_kb, c_1, c_2, c_3, c_4, c_4n], ht⟩) (fun q h => by cases h) d_Model_isKeyBefore_130
      · refine lv_aload_n hx hb d_Model_isKeyBefore_87 rfl (lv_at hl 0 rfl) ?_
        refine va_get (D := G.1) (ci := 7) (v := .ref (ad 4)) (C := R_Model) (T := F_Model) (N := 23) hx hb ht i_Model hown hK.1 hP 0 rfl rfl 6 (by decide) (ht _ m_511) (fun _ h9 => h9) rfl d_Model_isKeyBefore_88 ?_
        refine lv_iload_n hx hb d_Model_isKeyBefore_91 rfl (lv_at hl 1 rfl) ?_
        refine sy_iald hx hb hK.1 hP 5 0 rfl rfl (k := i) (by omega) (by decide) d_Model_isKeyBefore_92 ?_
        refine lv_aload_n hx hb d_Model_isKeyBefore_93 rfl (lv_at hl 0 rfl) ?_
        refine va_get (D := G.1) (ci := 7) (v := .ref (ad 4)) (C := R_Model) (T := F_Model) (N := 23) hx hb ht i_Model hown hK.1 hP 0 rfl rfl 6 (by decide) (ht _ m_511) (fun _ h9 => h9) rfl d_Model_isKeyBefore_94 ?_
        refine lv_iload_n hx hb d_Model_isKeyBefore_97 rfl (lv_at hl 2 rfl) ?_
        refine sy_iald hx hb hK.1 hP 5 0 rfl rfl (k := j) (by omega) (by decide) d_Model_isKeyBefore_98 ?_
        refine lv_icmp_ge (tgt := 106) hx hb d_Model_isKeyBefore_99 (by decide) (fun c_5 => ?_) (fun c_5 => ?_)
        · have c_5n := sy_c32 c_5
          refine lv_iconst (v := 0) hx hb d_Model_isKeyBefore_106 (by decide) ?_
          refine lv_goto (tgt := 130) hx hb d_Model_isKeyBefore_107 (by decide) ?_
          exact W.zret (v := (0 : Int32)) hx hb hr (rfl) (fun t ht hW => ⟨(0 : Int32), rfl, by simp [bI, mo_kb, c_1, c_2, c_3, c_5, c_5n], ht⟩) (fun q h => by cases h) d_Model_isKeyBefore_130
        · have c_5n := sy_d32 c_5
          refine lv_iconst (v := 1) hx hb d_Model_isKeyBefore_102 (by decide) ?_
          refine lv_goto (tgt := 130) hx hb d_Model_isKeyBefore_103 (by decide) ?_
          exact W.zret (v := (1 : Int32)) hx hb hr (rfl) (fun t ht hW => ⟨(1 : Int32), rfl, by simp [bI, mo_kb, c_1, c_2, c_3, c_5, c_5n], ht⟩) (fun q h => by cases h) d_Model_isKeyBefore_130
    · refine lv_aload_n hx hb d_Model_isKeyBefore_51 rfl (lv_at hl 0 rfl) ?_
      refine va_get (D := G.1) (ci := 7) (v := .ref (ad 3)) (C := R_Model) (T := F_Model) (N := 23) hx hb ht i_Model hown hK.1 hP 0 rfl rfl 5 (by decide) (ht _ m_510) (fun _ h9 => h9) rfl d_Model_isKeyBefore_52 ?_
      refine lv_iload_n hx hb d_Model_isKeyBefore_55 rfl (lv_at hl 1 rfl) ?_
      refine sy_iald hx hb hK.1 hP 4 0 rfl rfl (k := i) (by omega) (by decide) d_Model_isKeyBefore_56 ?_
      refine lv_aload_n hx hb d_Model_isKeyBefore_57 rfl (lv_at hl 0 rfl) ?_
      refine va_get (D := G.1) (ci := 7) (v := .ref (ad 3)) (C := R_Model) (T := F_Model) (N := 23) hx hb ht i_Model hown hK.1 hP 0 rfl rfl 5 (by decide) (ht _ m_510) (fun _ h9 => h9) rfl d_Model_isKeyBefore_58 ?_
      refine lv_iload_n hx hb d_Model_isKeyBefore_61 rfl (lv_at hl 2 rfl) ?_
      refine sy_iald hx hb hK.1 hP 4 0 rfl rfl (k := j) (by omega) (by decide) d_Model_isKeyBefore_62 ?_
      refine lv_icmp_ge (tgt := 70) hx hb d_Model_isKeyBefore_63 (by decide) (fun c_6 => ?_) (fun c_6 => ?_)
      · have c_6n := sy_c32 c_6
        refine lv_iconst (v := 0) hx hb d_Model_isKeyBefore_70 (by decide) ?_
        exact W.zret (v := (0 : Int32)) hx hb hr (rfl) (fun t ht hW => ⟨(0 : Int32), rfl, by simp [bI, mo_kb, c_1, c_2, c_6, c_6n], ht⟩) (fun q h => by cases h) d_Model_isKeyBefore_71
      · have c_6n := sy_d32 c_6
        refine lv_iconst (v := 1) hx hb d_Model_isKeyBefore_66 (by decide) ?_
        refine lv_goto (tgt := 71) hx hb d_Model_isKeyBefore_67 (by decide) ?_
        exact W.zret (v := (1 : Int32)) hx hb hr (rfl) (fun t ht hW => ⟨(1 : Int32), rfl, by simp [bI, mo_kb, c_1, c_2, c_6, c_6n], ht⟩) (fun q h => by cases h) d_Model_isKeyBefore_71
  · refine lv_aload_n hx hb d_Model_isKeyBefore_15 rfl (lv_at hl 0 rfl) ?_
    refine va_get (D := G.1) (ci := 7) (v := .ref (ad 2)) (C := R_Model) (T := F_Model) (N := 23) hx hb ht i_Model hown hK.1 hP 0 rfl rfl 4 (by decide) (ht _ m_509) (fun _ h9 => h9) rfl d_Model_isKeyBefore_16 ?_
    refine lv_iload_n hx hb d_Model_isKeyBefore_19 rfl (lv_at hl 1 rfl) ?_
    refine sy_iald hx hb hK.1 hP 3 0 rfl rfl (k := i) (by omega) (by decide) d_Model_isKeyBefore_20 ?_
    refine lv_aload_n hx hb d_Model_isKeyBefore_21 rfl (lv_at hl 0 rfl) ?_
    refine va_get (D := G.1) (ci := 7) (v := .ref (ad 2)) (C := R_Model) (T := F_Model) (N := 23) hx hb ht i_Model hown hK.1 hP 0 rfl rfl 4 (by decide) (ht _ m_509) (fun _ h9 => h9) rfl d_Model_isKeyBefore_22 ?_
    refine lv_iload_n hx hb d_Model_isKeyBefore_25 rfl (lv_at hl 2 rfl) ?_
    refine sy_iald hx hb hK.1 hP 3 0 rfl rfl (k := j) (by omega) (by decide) d_Model_isKeyBefore_26 ?_
    refine lv_icmp_ge (tgt := 34) hx hb d_Model_isKeyBefore_27 (by decide) (fun c_7 => ?_) (fun c_7 => ?_)
    · have c_7n := sy_c32 c_7
      refine lv_iconst (v := 0) hx hb d_Model_isKeyBefore_34 (by decide) ?_
      exact W.zret (v := (0 : Int32)) hx hb hr (rfl) (fun t ht hW => ⟨(0 : Int32), rfl, by simp [bI, mo_kb, c_1, c_7, c_7n], ht⟩) (fun q h => by cases h) d_Model_isKeyBefore_35
    · have c_7n := sy_d32 c_7
      refine lv_iconst (v := 1) hx hb d_Model_isKeyBefore_30 (by decide) ?_
      refine lv_goto (tgt := 35) hx hb d_Model_isKeyBefore_31 (by decide) ?_
      exact W.zret (v := (1 : Int32)) hx hb hr (rfl) (fun t ht hW => ⟨(1 : Int32), rfl, by simp [bI, mo_kb, c_1, c_7, c_7n], ht⟩) (fun q h => by cases h) d_Model_isKeyBefore_35
set_option maxHeartbeats 4000000 in
set_option maxRecDepth 100000 in
theorem c_Model_isSeen (l : Launch) (G : sy_G) (ob : Nat) (ad : Nat → Nat) (sc : Nat → Nat) (mI : Nat → Nat → Int32) (mL : Nat → Nat → Int64) (mZ : Nat → Nat → Bool) (z : Nat) (i : Nat) (hn : sc 1 ≤ 60) (hz : z < 12) (hi : i < 60) : Met l y_Model_isSeen (sy_w y_Model_isSeen b_Model_isSeen 6 (some .boolean)) { frames := 2, cells := 0, slots := 0, locals := 44 } (va_Pc [.ref ob, .int (nI z), .int (nI i)] (sy_KP G (va_P G.1 classes (mw G.2 ob ad sc mI mL mZ)))) (vp_Si (fun r => r = bI (mo_se mI mL mZ (sc 1) z i))) 0 0 (fun _ => False) := by
  refine Met.ofW (cc := b_Model_isSeen) (maxL := 6) (ret := (some .boolean)) (by decide) rfl ?_
  intro p e s m args below meth c s₁ B hml hv
  obtain ⟨rfl, hP, hK⟩ := hv
  have hx := B.exec
  have hb := B.bytes
  have hr := B.returns
  have hts := atoms_spec (ws := sy_w y_Model_isSeen b_Model_isSeen 6 (some .boolean)) B.pre
  have ht : ∀ wd ∈ sy_T, wd.before ([.ref ob, .int (nI z), .int (nI i)] : List Value).toArray s = true := fun wd h => hts wd (List.mem_cons_of_mem _ h)
  have hown : s.vm.findClass R_Model = some m.cls := findClass_of_methodNamed B.named
  have hlocks := B.notSynchronized
  have hl := lv_entry ([.ref ob, .int (nI z), .int (nI i)]) (n := 6) (Nat.le_of_ble_eq_true rfl)
  rw [lg_entry_eq]
  generalize (lg_sl ([.ref ob, .int (nI z), .int (nI i)]) ++ List.replicate (6 - (lg_sl ([.ref ob, .int (nI z), .int (nI i)])).length) Slot.unset).toArray = ls at hl ⊢
  have hl : lv_has ls 6 [(0, .ref ob), (1, .int (nI z)), (2, .int (nI i))] := hl
  refine lv_aload_n hx hb d_Model_isSeen_0 rfl (lv_at hl 0 rfl) ?_
  refine lv_iload_n hx hb d_Model_isSeen_1 rfl (lv_at hl 1 rfl) ?_
  refine lv_iload_n hx hb d_Model_isSeen_2 rfl (lv_at hl 2 rfl) ?_
  refine vp_callSi (va_Run.run (sy_runV (As := [.int (nI z), .int (nI i)]) (rest := []) (b := ob) ⟨hx, hb, hml, hown, ht⟩ cl_Model_109 (c_Model_isHere l G ob ad sc mI mL mZ z i (by omega) (by omega)) hK hP (va_recv hK.1 hP (ci := 7) (q0 := 0) rfl rfl) rfl nm_Model_isHere rfl rfl ⟨Nat.le_of_ble_eq_true rfl, Nat.le_of_ble_eq_true rfl⟩ hl.1 (Nat.le_of_ble_eq_true rfl) d_Model_isSeen_3 ⟨Nat.zero_le _, Nat.zero_le _⟩)) (fun r_1 hr_1 => ?_)
  subst hr_1
  refine lv_if_ne (tgt := 11) hx hb d_Model_isSeen_6 (by decide) (fun c_2 => ?_) (fun c_2 => ?_)
  · have c_2 : (mo_he mI mL mZ z i) = true := bI_t c_2
    refine lv_iconst (v := 1) hx hb d_Model_isSeen_11 (by decide) ?_
    refine lv_istore_n (lv' := [(3, .int 1), (0, .ref ob), (1, .int (nI z)), (2, .int (nI i))]) hx hb d_Model_isSeen_12 rfl hl (by decide) rfl (fun ls hl => ?_)
    refine lv_aload_n hx hb d_Model_isSeen_13 rfl (lv_at hl 1 rfl) ?_
    refine lv_iload_n hx hb d_Model_isSeen_14 rfl (lv_at hl 2 rfl) ?_
    refine lv_iload_n hx hb d_Model_isSeen_15 rfl (lv_at hl 3 rfl) ?_
    refine vp_callSi (va_Run.run (sy_runV (As := [.int (nI z), .int (nI i)]) (rest := []) (b := ob) ⟨hx, hb, hml, hown, ht⟩ cl_Model_112 (c_Model_isChosen l G ob ad sc mI mL mZ z i (by omega) (by omega)) hK hP (va_recv hK.1 hP (ci := 7) (q0 := 0) rfl rfl) rfl nm_Model_isChosen rfl rfl ⟨Nat.le_of_ble_eq_true rfl, Nat.le_of_ble_eq_true rfl⟩ hl.1 (Nat.le_of_ble_eq_true rfl) d_Model_isSeen_16 ⟨Nat.zero_le _, Nat.zero_le _⟩)) (fun r_3 hr_3 => ?_)
    subst hr_3
    refine lv_istore (lv' := [(4, .int (bI (mo_cs mI mL mZ z i))), (3, .int 1), (0, .ref ob), (1, .int (nI z)), (2, .int (nI i))]) hx hb d_Model_isSeen_19 hl (by decide) rfl (fun ls hl => ?_)
    refine lv_iconst (v := 0) hx hb d_Model_isSeen_21 (by decide) ?_
    refine lv_istore (lv' := [(5, .int 0), (4, .int (bI (mo_cs mI mL mZ z i))), (3, .int 1), (0, .ref ob), (1, .int (nI z)), (2, .int (nI i))]) hx hb d_Model_isSeen_22 hl (by decide) rfl (fun ls hl => ?_)
    refine sy_loop (σ := Nat × Bool × Bool) (nL := 6) (fun x24 => match x24 with | (k, al, fi) => sc 1 - k) (fun x24 => match x24 with | (k, al, fi) => [(5, .int (nI k)), (3, .int (bI al)), (4, .int (bI fi)), (0, .ref ob), (1, .int (nI z)), (2, .int (nI i))]) (fun x24 => match x24 with | (k, al, fi) => k ≤ sc 1 ∧ al = se_al mI mL mZ z i k ∧ fi = se_fi mI mL mZ z i k) ?_ (0, true, mo_cs mI mL mZ z i) ?_ (lv_sub hl [0, 2, 1, 3, 4, 5] rfl)
    · intro x24 ls hI hl ih24
      obtain ⟨k, al, fi⟩ := x24
      have hl : lv_has ls 6 [(5, .int (nI k)), (3, .int (bI al)), (4, .int (bI fi)), (0, .ref ob), (1, .int (nI z)), (2, .int (nI i))] := hl
      obtain ⟨hk, hI, hI2⟩ := hI
      refine lv_iload hx hb d_Model_isSeen_24 (lv_at hl 0 rfl) ?_
      refine lv_aload_n hx hb d_Model_isSeen_26 rfl (lv_at hl 3 rfl) ?_
      refine va_get (D := G.1) (ci := 7) (v := .int (nI (sc 1))) (C := R_Model) (T := F_Model) (N := 23) hx hb ht i_Model hown hK.1 hP 0 rfl rfl 3 (by decide) (ht _ m_508) (fun _ h9 => h9) rfl d_Model_isSeen_27 ?_
      refine lv_icmp_ge (tgt := 99) hx hb d_Model_isSeen_30 (by decide) (fun c_4 => ?_) (fun c_4 => ?_)
      · have c_4 : (sc 1) ≤ k := (nI_leI (a := sc 1) (b := k) (by omega) (by omega)).mp c_4
        have c_4n : ¬ k < (sc 1) := by omega
        refine lv_iload_n hx hb d_Model_isSeen_99 rfl (lv_at hl 1 rfl) ?_
        refine lv_if_ne (tgt := 108) hx hb d_Model_isSeen_100 (by decide) (fun c_5 => ?_) (fun c_5 => ?_)
        · have c_5 : al = true := bI_t c_5
          refine lv_iconst (v := 1) hx hb d_Model_isSeen_108 (by decide) ?_
          refine lv_goto (tgt := 113) hx hb d_Model_isSeen_109 (by decide) ?_
          exact W.zret (v := (1 : Int32)) hx hb hr (rfl) (fun t ht hW => ⟨(1 : Int32), rfl, by simp [bI, mo_se, c_2, c_4, c_4n, c_5] <;> simp [show sc 1 = k by omega, ← hI, ← hI2, c_4, c_4n, c_5], ht⟩) (fun q h => by cases h) d_Model_isSeen_113
        · have c_5 : al = false := bI_f c_5
          refine lv_iload hx hb d_Model_isSeen_103 (lv_at hl 2 rfl) ?_
          refine lv_if_eq (tgt := 112) hx hb d_Model_isSeen_105 (by decide) (fun c_6 => ?_) (fun c_6 => ?_)
          · have c_6 : fi = false := bI_f c_6
            refine lv_iconst (v := 0) hx hb d_Model_isSeen_112 (by decide) ?_
            exact W.zret (v := (0 : Int32)) hx hb hr (rfl) (fun t ht hW => ⟨(0 : Int32), rfl, by simp [bI, mo_se, c_2, c_4, c_4n, c_5, c_6] <;> simp [show sc 1 = k by omega, ← hI, ← hI2, c_4, c_4n, c_5, c_6], ht⟩) (fun q h => by cases h) d_Model_isSeen_113
          · have c_6 : fi = true := bI_t c_6
            refine lv_iconst (v := 1) hx hb d_Model_isSeen_108 (by decide) ?_
            refine lv_goto (tgt := 113) hx hb d_Model_isSeen_109 (by decide) ?_
            exact W.zret (v := (1 : Int32)) hx hb hr (rfl) (fun t ht hW => ⟨(1 : Int32), rfl, by simp [bI, mo_se, c_2, c_4, c_4n, c_5, c_6] <;> simp [show sc 1 = k by omega, ← hI, ← hI2, c_4, c_4n, c_5, c_6], ht⟩) (fun q h => by cases h) d_Model_isSeen_113
      · have c_4 : ¬ (sc 1) ≤ k := fun h9 => c_4 ((nI_leI (a := sc 1) (b := k) (by omega) (by omega)).mpr h9)
        have c_4n : k < (sc 1) := by omega
        refine lv_iload hx hb d_Model_isSeen_33 (lv_at hl 0 rfl) ?_
        refine lv_iload_n hx hb d_Model_isSeen_35 rfl (lv_at hl 5 rfl) ?_
        refine lv_icmp_eq (tgt := 93) hx hb d_Model_isSeen_36 (by decide) (fun c_7 => ?_) (fun c_7 => ?_)
        · have c_7 : k = i := (nI_eq (a := k) (b := i) (by omega) (by omega)).mp c_7
          refine lv_iinc (v := nI (k + 1)) (lv' := [(5, .int (nI (k + 1))), (3, .int (bI al)), (4, .int (bI fi)), (0, .ref ob), (1, .int (nI z)), (2, .int (nI i))]) hx hb d_Model_isSeen_93 hl (k := 0) rfl (nI_add k 1) (by decide) rfl (fun ls hl => ?_)
          refine lv_goto (tgt := 24) hx hb d_Model_isSeen_96 (by decide) ?_
          refine ih24 (k + 1, al, fi) ls (show sc 1 - (k + 1) < sc 1 - k by omega) ?_ (lv_sub hl [0, 1, 2, 3, 4, 5] rfl)
          exact ⟨by omega, by first | (rw [se_al, if_pos (by simp [mo_so, c_4, c_4n, c_7]; done)]; done) | (rw [se_al, if_neg (by simp [mo_so, c_4, c_4n, c_7]; done), ← hI]; done), by first | (rw [se_fi, if_pos (by simp [mo_so, c_4, c_4n, c_7]; done), ← hI2]; simp [c_4, c_4n, c_7]; done) | (rw [se_fi, if_neg (by simp [mo_so, c_4, c_4n, c_7]; done), ← hI2]; done)⟩
        · have c_7 : ¬ k = i := fun h9 => c_7 ((nI_eq (a := k) (b := i) (by omega) (by omega)).mpr h9)
          refine lv_aload_n hx hb d_Model_isSeen_39 rfl (lv_at hl 3 rfl) ?_
          refine lv_iload_n hx hb d_Model_isSeen_40 rfl (lv_at hl 5 rfl) ?_
          refine lv_iload hx hb d_Model_isSeen_41 (lv_at hl 0 rfl) ?_
          refine vp_callSi (va_Run.run (sy_runV (As := [.int (nI i), .int (nI k)]) (rest := []) (b := ob) ⟨hx, hb, hml, hown, ht⟩ cl_Model_115 (c_Model_isSameKey l G ob ad sc mI mL mZ i k (by omega) (by omega)) hK hP (va_recv hK.1 hP (ci := 7) (q0 := 0) rfl rfl) rfl nm_Model_isSameKey rfl rfl ⟨Nat.le_of_ble_eq_true rfl, Nat.le_of_ble_eq_true rfl⟩ hl.1 (Nat.le_of_ble_eq_true rfl) d_Model_isSeen_43 ⟨Nat.zero_le _, Nat.zero_le _⟩)) (fun r_8 hr_8 => ?_)
          subst hr_8
          refine lv_if_eq (tgt := 93) hx hb d_Model_isSeen_46 (by decide) (fun c_9 => ?_) (fun c_9 => ?_)
          · have c_9 : (mo_sk mI i k) = false := bI_f c_9
            refine lv_iinc (v := nI (k + 1)) (lv' := [(5, .int (nI (k + 1))), (3, .int (bI al)), (4, .int (bI fi)), (0, .ref ob), (1, .int (nI z)), (2, .int (nI i))]) hx hb d_Model_isSeen_93 hl (k := 0) rfl (nI_add k 1) (by decide) rfl (fun ls hl => ?_)
            refine lv_goto (tgt := 24) hx hb d_Model_isSeen_96 (by decide) ?_
            refine ih24 (k + 1, al, fi) ls (show sc 1 - (k + 1) < sc 1 - k by omega) ?_ (lv_sub hl [0, 1, 2, 3, 4, 5] rfl)
            exact ⟨by omega, by first | (rw [se_al, if_pos (by simp [mo_so, c_4, c_4n, c_7, c_9]; done)]; done) | (rw [se_al, if_neg (by simp [mo_so, c_4, c_4n, c_7, c_9]; done), ← hI]; done), by first | (rw [se_fi, if_pos (by simp [mo_so, c_4, c_4n, c_7, c_9]; done), ← hI2]; simp [c_4, c_4n, c_7, c_9]; done) | (rw [se_fi, if_neg (by simp [mo_so, c_4, c_4n, c_7, c_9]; done), ← hI2]; done)⟩
          · have c_9 : (mo_sk mI i k) = true := bI_t c_9
            refine lv_aload_n hx hb d_Model_isSeen_49 rfl (lv_at hl 3 rfl) ?_
            refine lv_iload_n hx hb d_Model_isSeen_50 rfl (lv_at hl 4 rfl) ?_
            refine lv_iload hx hb d_Model_isSeen_51 (lv_at hl 0 rfl) ?_
            refine vp_callSi (va_Run.run (sy_runV (As := [.int (nI z), .int (nI k)]) (rest := []) (b := ob) ⟨hx, hb, hml, hown, ht⟩ cl_Model_109 (c_Model_isHere l G ob ad sc mI mL mZ z k (by omega) (by omega)) hK hP (va_recv hK.1 hP (ci := 7) (q0 := 0) rfl rfl) rfl nm_Model_isHere rfl rfl ⟨Nat.le_of_ble_eq_true rfl, Nat.le_of_ble_eq_true rfl⟩ hl.1 (Nat.le_of_ble_eq_true rfl) d_Model_isSeen_53 ⟨Nat.zero_le _, Nat.zero_le _⟩)) (fun r_10 hr_10 => ?_)
            subst hr_10
            refine lv_if_eq (tgt := 93) hx hb d_Model_isSeen_56 (by decide) (fun c_11 => ?_) (fun c_11 => ?_)
            · have c_11 : (mo_he mI mL mZ z k) = false := bI_f c_11
              refine lv_iinc (v := nI (k + 1)) (lv' := [(5, .int (nI (k + 1))), (3, .int (bI al)), (4, .int (bI fi)), (0, .ref ob), (1, .int (nI z)), (2, .int (nI i))]) hx hb d_Model_isSeen_93 hl (k := 0) rfl (nI_add k 1) (by decide) rfl (fun ls hl => ?_)
              refine lv_goto (tgt := 24) hx hb d_Model_isSeen_96 (by decide) ?_
              refine ih24 (k + 1, al, fi) ls (show sc 1 - (k + 1) < sc 1 - k by omega) ?_ (lv_sub hl [0, 1, 2, 3, 4, 5] rfl)
              exact ⟨by omega, by first | (rw [se_al, if_pos (by simp [mo_so, c_4, c_4n, c_7, c_9, c_11]; done)]; done) | (rw [se_al, if_neg (by simp [mo_so, c_4, c_4n, c_7, c_9, c_11]; done), ← hI]; done), by first | (rw [se_fi, if_pos (by simp [mo_so, c_4, c_4n, c_7, c_9, c_11]; done), ← hI2]; simp [c_4, c_4n, c_7, c_9, c_11]; done) | (rw [se_fi, if_neg (by simp [mo_so, c_4, c_4n, c_7, c_9, c_11]; done), ← hI2]; done)⟩
            · have c_11 : (mo_he mI mL mZ z k) = true := bI_t c_11
              refine lv_iconst (v := 0) hx hb d_Model_isSeen_59 (by decide) ?_
              refine lv_istore_n (lv' := [(3, .int 0), (5, .int (nI k)), (4, .int (bI fi)), (0, .ref ob), (1, .int (nI z)), (2, .int (nI i))]) hx hb d_Model_isSeen_60 rfl hl (by decide) rfl (fun ls hl => ?_)
              refine lv_iload hx hb d_Model_isSeen_61 (lv_at hl 2 rfl) ?_
              refine lv_if_eq (tgt := 90) hx hb d_Model_isSeen_63 (by decide) (fun c_12 => ?_) (fun c_12 => ?_)
              · have c_12 : fi = false := bI_f c_12
                refine lv_iconst (v := 0) hx hb d_Model_isSeen_90 (by decide) ?_
                refine lv_istore (lv' := [(4, .int 0), (3, .int 0), (5, .int (nI k)), (0, .ref ob), (1, .int (nI z)), (2, .int (nI i))]) hx hb d_Model_isSeen_91 hl (by decide) rfl (fun ls hl => ?_)
                refine lv_iinc (v := nI (k + 1)) (lv' := [(5, .int (nI (k + 1))), (4, .int 0), (3, .int 0), (0, .ref ob), (1, .int (nI z)), (2, .int (nI i))]) hx hb d_Model_isSeen_93 hl (k := 2) rfl (nI_add k 1) (by decide) rfl (fun ls hl => ?_)
                refine lv_goto (tgt := 24) hx hb d_Model_isSeen_96 (by decide) ?_
                refine ih24 (k + 1, false, false) ls (show sc 1 - (k + 1) < sc 1 - k by omega) ?_ (lv_sub hl [0, 2, 1, 3, 4, 5] rfl)
                exact ⟨by omega, by first | (rw [se_al, if_pos (by simp [mo_so, c_4, c_4n, c_7, c_9, c_11, c_12]; done)]; done) | (rw [se_al, if_neg (by simp [mo_so, c_4, c_4n, c_7, c_9, c_11, c_12]; done), ← hI]; done), by first | (rw [se_fi, if_pos (by simp [mo_so, c_4, c_4n, c_7, c_9, c_11, c_12]; done), ← hI2]; simp [c_4, c_4n, c_7, c_9, c_11, c_12]; done) | (rw [se_fi, if_neg (by simp [mo_so, c_4, c_4n, c_7, c_9, c_11, c_12]; done), ← hI2]; done)⟩
              · have c_12 : fi = true := bI_t c_12
                refine lv_aload_n hx hb d_Model_isSeen_66 rfl (lv_at hl 3 rfl) ?_
                refine lv_iload_n hx hb d_Model_isSeen_67 rfl (lv_at hl 4 rfl) ?_
                refine lv_iload hx hb d_Model_isSeen_68 (lv_at hl 1 rfl) ?_
                refine vp_callSi (va_Run.run (sy_runV (As := [.int (nI z), .int (nI k)]) (rest := []) (b := ob) ⟨hx, hb, hml, hown, ht⟩ cl_Model_112 (c_Model_isChosen l G ob ad sc mI mL mZ z k (by omega) (by omega)) hK hP (va_recv hK.1 hP (ci := 7) (q0 := 0) rfl rfl) rfl nm_Model_isChosen rfl rfl ⟨Nat.le_of_ble_eq_true rfl, Nat.le_of_ble_eq_true rfl⟩ hl.1 (Nat.le_of_ble_eq_true rfl) d_Model_isSeen_70 ⟨Nat.zero_le _, Nat.zero_le _⟩)) (fun r_13 hr_13 => ?_)
                subst hr_13
                refine lv_if_eq (tgt := 86) hx hb d_Model_isSeen_73 (by decide) (fun c_14 => ?_) (fun c_14 => ?_)
                · have c_14 : (mo_cs mI mL mZ z k) = false := bI_f c_14
                  refine lv_iconst (v := 1) hx hb d_Model_isSeen_86 (by decide) ?_
                  refine lv_goto (tgt := 91) hx hb d_Model_isSeen_87 (by decide) ?_
                  refine lv_istore (lv' := [(4, .int 1), (3, .int 0), (5, .int (nI k)), (0, .ref ob), (1, .int (nI z)), (2, .int (nI i))]) hx hb d_Model_isSeen_91 hl (by decide) rfl (fun ls hl => ?_)
                  refine lv_iinc (v := nI (k + 1)) (lv' := [(5, .int (nI (k + 1))), (4, .int 1), (3, .int 0), (0, .ref ob), (1, .int (nI z)), (2, .int (nI i))]) hx hb d_Model_isSeen_93 hl (k := 2) rfl (nI_add k 1) (by decide) rfl (fun ls hl => ?_)
                  refine lv_goto (tgt := 24) hx hb d_Model_isSeen_96 (by decide) ?_
                  refine ih24 (k + 1, false, true) ls (show sc 1 - (k + 1) < sc 1 - k by omega) ?_ (lv_sub hl [0, 2, 1, 3, 4, 5] rfl)
                  exact ⟨by omega, by first | (rw [se_al, if_pos (by simp [mo_so, c_4, c_4n, c_7, c_9, c_11, c_12, c_14]; done)]; done) | (rw [se_al, if_neg (by simp [mo_so, c_4, c_4n, c_7, c_9, c_11, c_12, c_14]; done), ← hI]; done), by first | (rw [se_fi, if_pos (by simp [mo_so, c_4, c_4n, c_7, c_9, c_11, c_12, c_14]; done), ← hI2]; simp [c_4, c_4n, c_7, c_9, c_11, c_12, c_14]; done) | (rw [se_fi, if_neg (by simp [mo_so, c_4, c_4n, c_7, c_9, c_11, c_12, c_14]; done), ← hI2]; done)⟩
                · have c_14 : (mo_cs mI mL mZ z k) = true := bI_t c_14
                  refine lv_aload_n hx hb d_Model_isSeen_76 rfl (lv_at hl 3 rfl) ?_
                  refine lv_iload hx hb d_Model_isSeen_77 (lv_at hl 1 rfl) ?_
                  refine lv_iload_n hx hb d_Model_isSeen_79 rfl (lv_at hl 5 rfl) ?_
                  refine vp_callSi (va_Run.run (sy_runV (As := [.int (nI k), .int (nI i)]) (rest := []) (b := ob) ⟨hx, hb, hml, hown, ht⟩ cl_Model_118 (c_Model_isBefore l G ob ad sc mI mL mZ k i (by omega) (by omega)) hK hP (va_recv hK.1 hP (ci := 7) (q0 := 0) rfl rfl) rfl nm_Model_isBefore rfl rfl ⟨Nat.le_of_ble_eq_true rfl, Nat.le_of_ble_eq_true rfl⟩ hl.1 (Nat.le_of_ble_eq_true rfl) d_Model_isSeen_80 ⟨Nat.zero_le _, Nat.zero_le _⟩)) (fun r_15 hr_15 => ?_)
                  subst hr_15
                  refine lv_if_ne (tgt := 90) hx hb d_Model_isSeen_83 (by decide) (fun c_16 => ?_) (fun c_16 => ?_)
                  · have c_16 : (mo_bf mI mL k i) = true := bI_t c_16
                    refine lv_iconst (v := 0) hx hb d_Model_isSeen_90 (by decide) ?_
                    refine lv_istore (lv' := [(4, .int 0), (3, .int 0), (5, .int (nI k)), (0, .ref ob), (1, .int (nI z)), (2, .int (nI i))]) hx hb d_Model_isSeen_91 hl (by decide) rfl (fun ls hl => ?_)
                    refine lv_iinc (v := nI (k + 1)) (lv' := [(5, .int (nI (k + 1))), (4, .int 0), (3, .int 0), (0, .ref ob), (1, .int (nI z)), (2, .int (nI i))]) hx hb d_Model_isSeen_93 hl (k := 2) rfl (nI_add k 1) (by decide) rfl (fun ls hl => ?_)
                    refine lv_goto (tgt := 24) hx hb d_Model_isSeen_96 (by decide) ?_
                    refine ih24 (k + 1, false, false) ls (show sc 1 - (k + 1) < sc 1 - k by omega) ?_ (lv_sub hl [0, 2, 1, 3, 4, 5] rfl)
                    exact ⟨by omega, by first | (rw [se_al, if_pos (by simp [mo_so, c_4, c_4n, c_7, c_9, c_11, c_12, c_14, c_16]; done)]; done) | (rw [se_al, if_neg (by simp [mo_so, c_4, c_4n, c_7, c_9, c_11, c_12, c_14, c_16]; done), ← hI]; done), by first | (rw [se_fi, if_pos (by simp [mo_so, c_4, c_4n, c_7, c_9, c_11, c_12, c_14, c_16]; done), ← hI2]; simp [c_4, c_4n, c_7, c_9, c_11, c_12, c_14, c_16]; done) | (rw [se_fi, if_neg (by simp [mo_so, c_4, c_4n, c_7, c_9, c_11, c_12, c_14, c_16]; done), ← hI2]; done)⟩
                  · have c_16 : (mo_bf mI mL k i) = false := bI_f c_16
                    refine lv_iconst (v := 1) hx hb d_Model_isSeen_86 (by decide) ?_
                    refine lv_goto (tgt := 91) hx hb d_Model_isSeen_87 (by decide) ?_
                    refine lv_istore (lv' := [(4, .int 1), (3, .int 0), (5, .int (nI k)), (0, .ref ob), (1, .int (nI z)), (2, .int (nI i))]) hx hb d_Model_isSeen_91 hl (by decide) rfl (fun ls hl => ?_)
                    refine lv_iinc (v := nI (k + 1)) (lv' := [(5, .int (nI (k + 1))), (4, .int 1), (3, .int 0), (0, .ref ob), (1, .int (nI z)), (2, .int (nI i))]) hx hb d_Model_isSeen_93 hl (k := 2) rfl (nI_add k 1) (by decide) rfl (fun ls hl => ?_)
                    refine lv_goto (tgt := 24) hx hb d_Model_isSeen_96 (by decide) ?_
                    refine ih24 (k + 1, false, true) ls (show sc 1 - (k + 1) < sc 1 - k by omega) ?_ (lv_sub hl [0, 2, 1, 3, 4, 5] rfl)
                    exact ⟨by omega, by first | (rw [se_al, if_pos (by simp [mo_so, c_4, c_4n, c_7, c_9, c_11, c_12, c_14, c_16]; done)]; done) | (rw [se_al, if_neg (by simp [mo_so, c_4, c_4n, c_7, c_9, c_11, c_12, c_14, c_16]; done), ← hI]; done), by first | (rw [se_fi, if_pos (by simp [mo_so, c_4, c_4n, c_7, c_9, c_11, c_12, c_14, c_16]; done), ← hI2]; simp [c_4, c_4n, c_7, c_9, c_11, c_12, c_14, c_16]; done) | (rw [se_fi, if_neg (by simp [mo_so, c_4, c_4n, c_7, c_9, c_11, c_12, c_14, c_16]; done), ← hI2]; done)⟩
    · exact ⟨Nat.zero_le _, rfl, rfl⟩
  · have c_2 : (mo_he mI mL mZ z i) = false := bI_f c_2
    refine lv_iconst (v := 0) hx hb d_Model_isSeen_9 (by decide) ?_
    exact W.zret (v := (0 : Int32)) hx hb hr (rfl) (fun t ht hW => ⟨(0 : Int32), rfl, by simp [bI, mo_se, c_2] <;> simp [show sc 1 = k by omega, ← hI, ← hI2, c_2], ht⟩) (fun q h => by cases h) d_Model_isSeen_10
set_option maxHeartbeats 4000000 in
set_option maxRecDepth 100000 in
theorem c_Model_isConflict (l : Launch) (G : sy_G) (ob : Nat) (ad : Nat → Nat) (sc : Nat → Nat) (mI : Nat → Nat → Int32) (mL : Nat → Nat → Int64) (mZ : Nat → Nat → Bool) (z : Nat) (i : Nat) (hn : sc 1 ≤ 60) (hz : z < 12) (hi : i < 60) : Met l y_Model_isConflict (sy_w y_Model_isConflict b_Model_isConflict 6 (some .boolean)) { frames := 2, cells := 0, slots := 0, locals := 44 } (va_Pc [.ref ob, .int (nI z), .int (nI i)] (sy_KP G (va_P G.1 classes (mw G.2 ob ad sc mI mL mZ)))) (vp_Si (fun r => r = bI (mo_cf mI mL mZ (sc 1) z i))) 0 0 (fun _ => False) := by
  refine Met.ofW (cc := b_Model_isConflict) (maxL := 6) (ret := (some .boolean)) (by decide) rfl ?_
  intro p e s m args below meth c s₁ B hml hv
  obtain ⟨rfl, hP, hK⟩ := hv
  have hx := B.exec
  have hb := B.bytes
  have hr := B.returns
  have hts := atoms_spec (ws := sy_w y_Model_isConflict b_Model_isConflict 6 (some .boolean)) B.pre
  have ht : ∀ wd ∈ sy_T, wd.before ([.ref ob, .int (nI z), .int (nI i)] : List Value).toArray s = true := fun wd h => hts wd (List.mem_cons_of_mem _ h)
  have hown : s.vm.findClass R_Model = some m.cls := findClass_of_methodNamed B.named
  have hlocks := B.notSynchronized
  have hl := lv_entry ([.ref ob, .int (nI z), .int (nI i)]) (n := 6) (Nat.le_of_ble_eq_true rfl)
  rw [lg_entry_eq]
  generalize (lg_sl ([.ref ob, .int (nI z), .int (nI i)]) ++ List.replicate (6 - (lg_sl ([.ref ob, .int (nI z), .int (nI i)])).length) Slot.unset).toArray = ls at hl ⊢
  have hl : lv_has ls 6 [(0, .ref ob), (1, .int (nI z)), (2, .int (nI i))] := hl
  refine lv_aload_n hx hb d_Model_isConflict_0 rfl (lv_at hl 0 rfl) ?_
  refine lv_iload_n hx hb d_Model_isConflict_1 rfl (lv_at hl 1 rfl) ?_
  refine lv_iload_n hx hb d_Model_isConflict_2 rfl (lv_at hl 2 rfl) ?_
  refine vp_callSi (va_Run.run (sy_runV (As := [.int (nI z), .int (nI i)]) (rest := []) (b := ob) ⟨hx, hb, hml, hown, ht⟩ cl_Model_109 (c_Model_isHere l G ob ad sc mI mL mZ z i (by omega) (by omega)) hK hP (va_recv hK.1 hP (ci := 7) (q0 := 0) rfl rfl) rfl nm_Model_isHere rfl rfl ⟨Nat.le_of_ble_eq_true rfl, Nat.le_of_ble_eq_true rfl⟩ hl.1 (Nat.le_of_ble_eq_true rfl) d_Model_isConflict_3 ⟨Nat.zero_le _, Nat.zero_le _⟩)) (fun r_1 hr_1 => ?_)
  subst hr_1
  refine lv_if_ne (tgt := 11) hx hb d_Model_isConflict_6 (by decide) (fun c_2 => ?_) (fun c_2 => ?_)
  · have c_2 : (mo_he mI mL mZ z i) = true := bI_t c_2
    refine lv_iconst (v := 0) hx hb d_Model_isConflict_11 (by decide) ?_
    refine lv_istore_n (lv' := [(3, .int 0), (0, .ref ob), (1, .int (nI z)), (2, .int (nI i))]) hx hb d_Model_isConflict_12 rfl hl (by decide) rfl (fun ls hl => ?_)
    refine lv_aload_n hx hb d_Model_isConflict_13 rfl (lv_at hl 1 rfl) ?_
    refine lv_iload_n hx hb d_Model_isConflict_14 rfl (lv_at hl 2 rfl) ?_
    refine lv_iload_n hx hb d_Model_isConflict_15 rfl (lv_at hl 3 rfl) ?_
    refine vp_callSi (va_Run.run (sy_runV (As := [.int (nI z), .int (nI i)]) (rest := []) (b := ob) ⟨hx, hb, hml, hown, ht⟩ cl_Model_112 (c_Model_isChosen l G ob ad sc mI mL mZ z i (by omega) (by omega)) hK hP (va_recv hK.1 hP (ci := 7) (q0 := 0) rfl rfl) rfl nm_Model_isChosen rfl rfl ⟨Nat.le_of_ble_eq_true rfl, Nat.le_of_ble_eq_true rfl⟩ hl.1 (Nat.le_of_ble_eq_true rfl) d_Model_isConflict_16 ⟨Nat.zero_le _, Nat.zero_le _⟩)) (fun r_3 hr_3 => ?_)
    subst hr_3
    refine lv_istore (lv' := [(4, .int (bI (mo_cs mI mL mZ z i))), (3, .int 0), (0, .ref ob), (1, .int (nI z)), (2, .int (nI i))]) hx hb d_Model_isConflict_19 hl (by decide) rfl (fun ls hl => ?_)
    refine lv_iconst (v := 0) hx hb d_Model_isConflict_21 (by decide) ?_
    refine lv_istore (lv' := [(5, .int 0), (4, .int (bI (mo_cs mI mL mZ z i))), (3, .int 0), (0, .ref ob), (1, .int (nI z)), (2, .int (nI i))]) hx hb d_Model_isConflict_22 hl (by decide) rfl (fun ls hl => ?_)
    refine sy_loop (σ := Nat × Bool × Bool) (nL := 6) (fun x24 => match x24 with | (k, un, st) => sc 1 - k) (fun x24 => match x24 with | (k, un, st) => [(5, .int (nI k)), (3, .int (bI un)), (4, .int (bI st)), (0, .ref ob), (1, .int (nI z)), (2, .int (nI i))]) (fun x24 => match x24 with | (k, un, st) => k ≤ sc 1 ∧ un = cf_un mI mL mZ z i k ∧ st = cf_st mI mL mZ z i k ∧ nn_any (mo_ce mI mL mZ z i) k = false) ?_ (0, false, mo_cs mI mL mZ z i) ?_ (lv_sub hl [0, 2, 1, 3, 4, 5] rfl)
    · intro x24 ls hI hl ih24
      obtain ⟨k, un, st⟩ := x24
      have hl : lv_has ls 6 [(5, .int (nI k)), (3, .int (bI un)), (4, .int (bI st)), (0, .ref ob), (1, .int (nI z)), (2, .int (nI i))] := hl
      obtain ⟨hk, hI, hI2, hI3⟩ := hI
      refine lv_iload hx hb d_Model_isConflict_24 (lv_at hl 0 rfl) ?_
      refine lv_aload_n hx hb d_Model_isConflict_26 rfl (lv_at hl 3 rfl) ?_
      refine va_get (D := G.1) (ci := 7) (v := .int (nI (sc 1))) (C := R_Model) (T := F_Model) (N := 23) hx hb ht i_Model hown hK.1 hP 0 rfl rfl 3 (by decide) (ht _ m_508) (fun _ h9 => h9) rfl d_Model_isConflict_27 ?_
      refine lv_icmp_ge (tgt := 97) hx hb d_Model_isConflict_30 (by decide) (fun c_4 => ?_) (fun c_4 => ?_)
      · have c_4 : (sc 1) ≤ k := (nI_leI (a := sc 1) (b := k) (by omega) (by omega)).mp c_4
        have c_4n : ¬ k < (sc 1) := by omega
        refine lv_iload_n hx hb d_Model_isConflict_97 rfl (lv_at hl 1 rfl) ?_
        refine lv_if_eq (tgt := 110) hx hb d_Model_isConflict_98 (by decide) (fun c_5 => ?_) (fun c_5 => ?_)
        · have c_5 : un = false := bI_f c_5
          refine lv_iconst (v := 0) hx hb d_Model_isConflict_110 (by decide) ?_
          exact W.zret (v := (0 : Int32)) hx hb hr (rfl) (fun t ht hW => ⟨(0 : Int32), rfl, by first | (simp [bI, mo_cf, c_4, c_4n, c_5]; done) | (rw [mo_cf, nn_any_of (p := mo_ce mI mL mZ z i) (k := k) (by omega) (by simp [mo_ce, mo_so, c_4, c_4n, c_5]; done)]; simp [bI]; done) | (simp [bI, mo_cf, c_2, c_4, c_4n, c_5] <;> simp [show sc 1 = k by omega, hI3, ← hI, ← hI2, c_4, c_4n, c_5]; done), ht⟩) (fun q h => by cases h) d_Model_isConflict_111
        · have c_5 : un = true := bI_t c_5
          refine lv_iload hx hb d_Model_isConflict_101 (lv_at hl 2 rfl) ?_
          refine lv_if_ne (tgt := 110) hx hb d_Model_isConflict_103 (by decide) (fun c_6 => ?_) (fun c_6 => ?_)
          · have c_6 : st = true := bI_t c_6
            refine lv_iconst (v := 0) hx hb d_Model_isConflict_110 (by decide) ?_
            exact W.zret (v := (0 : Int32)) hx hb hr (rfl) (fun t ht hW => ⟨(0 : Int32), rfl, by first | (simp [bI, mo_cf, c_4, c_4n, c_5, c_6]; done) | (rw [mo_cf, nn_any_of (p := mo_ce mI mL mZ z i) (k := k) (by omega) (by simp [mo_ce, mo_so, c_4, c_4n, c_5, c_6]; done)]; simp [bI]; done) | (simp [bI, mo_cf, c_2, c_4, c_4n, c_5, c_6] <;> simp [show sc 1 = k by omega, hI3, ← hI, ← hI2, c_4, c_4n, c_5, c_6]; done), ht⟩) (fun q h => by cases h) d_Model_isConflict_111
          · have c_6 : st = false := bI_f c_6
            refine lv_iconst (v := 1) hx hb d_Model_isConflict_106 (by decide) ?_
            refine lv_goto (tgt := 111) hx hb d_Model_isConflict_107 (by decide) ?_
            exact W.zret (v := (1 : Int32)) hx hb hr (rfl) (fun t ht hW => ⟨(1 : Int32), rfl, by first | (simp [bI, mo_cf, c_4, c_4n, c_5, c_6]; done) | (rw [mo_cf, nn_any_of (p := mo_ce mI mL mZ z i) (k := k) (by omega) (by simp [mo_ce, mo_so, c_4, c_4n, c_5, c_6]; done)]; simp [bI]; done) | (simp [bI, mo_cf, c_2, c_4, c_4n, c_5, c_6] <;> simp [show sc 1 = k by omega, hI3, ← hI, ← hI2, c_4, c_4n, c_5, c_6]; done), ht⟩) (fun q h => by cases h) d_Model_isConflict_111
      · have c_4 : ¬ (sc 1) ≤ k := fun h9 => c_4 ((nI_leI (a := sc 1) (b := k) (by omega) (by omega)).mpr h9)
        have c_4n : k < (sc 1) := by omega
        refine lv_iload hx hb d_Model_isConflict_33 (lv_at hl 0 rfl) ?_
        refine lv_iload_n hx hb d_Model_isConflict_35 rfl (lv_at hl 5 rfl) ?_
        refine lv_icmp_eq (tgt := 91) hx hb d_Model_isConflict_36 (by decide) (fun c_7 => ?_) (fun c_7 => ?_)
        · have c_7 : k = i := (nI_eq (a := k) (b := i) (by omega) (by omega)).mp c_7
          refine lv_iinc (v := nI (k + 1)) (lv' := [(5, .int (nI (k + 1))), (3, .int (bI un)), (4, .int (bI st)), (0, .ref ob), (1, .int (nI z)), (2, .int (nI i))]) hx hb d_Model_isConflict_91 hl (k := 0) rfl (nI_add k 1) (by decide) rfl (fun ls hl => ?_)
          refine lv_goto (tgt := 24) hx hb d_Model_isConflict_94 (by decide) ?_
          refine ih24 (k + 1, un, st) ls (show sc 1 - (k + 1) < sc 1 - k by omega) ?_ (lv_sub hl [0, 1, 2, 3, 4, 5] rfl)
          exact ⟨by omega, by first | (rw [cf_un, if_pos (by simp [mo_so, c_4, c_4n, c_7]; done)]; done) | (rw [cf_un, if_neg (by simp [mo_so, c_4, c_4n, c_7]; done), ← hI]; done), by first | (rw [cf_st, if_pos (by simp [mo_so, c_4, c_4n, c_7]; done), ← hI2]; simp [c_4, c_4n, c_7]; done) | (rw [cf_st, if_neg (by simp [mo_so, c_4, c_4n, c_7]; done), ← hI2]; done), by rw [nn_any, hI3]; simp [mo_so, mo_ce, c_4, c_4n, c_7]⟩
        · have c_7 : ¬ k = i := fun h9 => c_7 ((nI_eq (a := k) (b := i) (by omega) (by omega)).mpr h9)
          refine lv_aload_n hx hb d_Model_isConflict_39 rfl (lv_at hl 3 rfl) ?_
          refine lv_iload_n hx hb d_Model_isConflict_40 rfl (lv_at hl 5 rfl) ?_
          refine lv_iload hx hb d_Model_isConflict_41 (lv_at hl 0 rfl) ?_
          refine vp_callSi (va_Run.run (sy_runV (As := [.int (nI i), .int (nI k)]) (rest := []) (b := ob) ⟨hx, hb, hml, hown, ht⟩ cl_Model_115 (c_Model_isSameKey l G ob ad sc mI mL mZ i k (by omega) (by omega)) hK hP (va_recv hK.1 hP (ci := 7) (q0 := 0) rfl rfl) rfl nm_Model_isSameKey rfl rfl ⟨Nat.le_of_ble_eq_true rfl, Nat.le_of_ble_eq_true rfl⟩ hl.1 (Nat.le_of_ble_eq_true rfl) d_Model_isConflict_43 ⟨Nat.zero_le _, Nat.zero_le _⟩)) (fun r_8 hr_8 => ?_)
          subst hr_8
          refine lv_if_eq (tgt := 91) hx hb d_Model_isConflict_46 (by decide) (fun c_9 => ?_) (fun c_9 => ?_)
          · have c_9 : (mo_sk mI i k) = false := bI_f c_9
            refine lv_iinc (v := nI (k + 1)) (lv' := [(5, .int (nI (k + 1))), (3, .int (bI un)), (4, .int (bI st)), (0, .ref ob), (1, .int (nI z)), (2, .int (nI i))]) hx hb d_Model_isConflict_91 hl (k := 0) rfl (nI_add k 1) (by decide) rfl (fun ls hl => ?_)
            refine lv_goto (tgt := 24) hx hb d_Model_isConflict_94 (by decide) ?_
            refine ih24 (k + 1, un, st) ls (show sc 1 - (k + 1) < sc 1 - k by omega) ?_ (lv_sub hl [0, 1, 2, 3, 4, 5] rfl)
            exact ⟨by omega, by first | (rw [cf_un, if_pos (by simp [mo_so, c_4, c_4n, c_7, c_9]; done)]; done) | (rw [cf_un, if_neg (by simp [mo_so, c_4, c_4n, c_7, c_9]; done), ← hI]; done), by first | (rw [cf_st, if_pos (by simp [mo_so, c_4, c_4n, c_7, c_9]; done), ← hI2]; simp [c_4, c_4n, c_7, c_9]; done) | (rw [cf_st, if_neg (by simp [mo_so, c_4, c_4n, c_7, c_9]; done), ← hI2]; done), by rw [nn_any, hI3]; simp [mo_so, mo_ce, c_4, c_4n, c_7, c_9]⟩
          · have c_9 : (mo_sk mI i k) = true := bI_t c_9
            refine lv_aload_n hx hb d_Model_isConflict_49 rfl (lv_at hl 3 rfl) ?_
            refine lv_iload_n hx hb d_Model_isConflict_50 rfl (lv_at hl 4 rfl) ?_
            refine lv_iload hx hb d_Model_isConflict_51 (lv_at hl 0 rfl) ?_
            refine vp_callSi (va_Run.run (sy_runV (As := [.int (nI z), .int (nI k)]) (rest := []) (b := ob) ⟨hx, hb, hml, hown, ht⟩ cl_Model_109 (c_Model_isHere l G ob ad sc mI mL mZ z k (by omega) (by omega)) hK hP (va_recv hK.1 hP (ci := 7) (q0 := 0) rfl rfl) rfl nm_Model_isHere rfl rfl ⟨Nat.le_of_ble_eq_true rfl, Nat.le_of_ble_eq_true rfl⟩ hl.1 (Nat.le_of_ble_eq_true rfl) d_Model_isConflict_53 ⟨Nat.zero_le _, Nat.zero_le _⟩)) (fun r_10 hr_10 => ?_)
            subst hr_10
            refine lv_if_eq (tgt := 91) hx hb d_Model_isConflict_56 (by decide) (fun c_11 => ?_) (fun c_11 => ?_)
            · have c_11 : (mo_he mI mL mZ z k) = false := bI_f c_11
              refine lv_iinc (v := nI (k + 1)) (lv' := [(5, .int (nI (k + 1))), (3, .int (bI un)), (4, .int (bI st)), (0, .ref ob), (1, .int (nI z)), (2, .int (nI i))]) hx hb d_Model_isConflict_91 hl (k := 0) rfl (nI_add k 1) (by decide) rfl (fun ls hl => ?_)
              refine lv_goto (tgt := 24) hx hb d_Model_isConflict_94 (by decide) ?_
              refine ih24 (k + 1, un, st) ls (show sc 1 - (k + 1) < sc 1 - k by omega) ?_ (lv_sub hl [0, 1, 2, 3, 4, 5] rfl)
              exact ⟨by omega, by first | (rw [cf_un, if_pos (by simp [mo_so, c_4, c_4n, c_7, c_9, c_11]; done)]; done) | (rw [cf_un, if_neg (by simp [mo_so, c_4, c_4n, c_7, c_9, c_11]; done), ← hI]; done), by first | (rw [cf_st, if_pos (by simp [mo_so, c_4, c_4n, c_7, c_9, c_11]; done), ← hI2]; simp [c_4, c_4n, c_7, c_9, c_11]; done) | (rw [cf_st, if_neg (by simp [mo_so, c_4, c_4n, c_7, c_9, c_11]; done), ← hI2]; done), by rw [nn_any, hI3]; simp [mo_so, mo_ce, c_4, c_4n, c_7, c_9, c_11]⟩
            · have c_11 : (mo_he mI mL mZ z k) = true := bI_t c_11
              refine lv_iload hx hb d_Model_isConflict_59 (lv_at hl 0 rfl) ?_
              refine lv_iload_n hx hb d_Model_isConflict_61 rfl (lv_at hl 5 rfl) ?_
              refine lv_icmp_ge (tgt := 67) hx hb d_Model_isConflict_62 (by decide) (fun c_12 => ?_) (fun c_12 => ?_)
              · have c_12 : i ≤ k := (nI_leI (a := i) (b := k) (by omega) (by omega)).mp c_12
                have c_12n : ¬ k < i := by omega
                refine lv_iconst (v := 1) hx hb d_Model_isConflict_67 (by decide) ?_
                refine lv_istore_n (lv' := [(3, .int 1), (5, .int (nI k)), (4, .int (bI st)), (0, .ref ob), (1, .int (nI z)), (2, .int (nI i))]) hx hb d_Model_isConflict_68 rfl hl (by decide) rfl (fun ls hl => ?_)
                refine lv_iload hx hb d_Model_isConflict_69 (lv_at hl 2 rfl) ?_
                refine lv_if_ne (tgt := 84) hx hb d_Model_isConflict_71 (by decide) (fun c_13 => ?_) (fun c_13 => ?_)
                · have c_13 : st = true := bI_t c_13
                  refine lv_iconst (v := 1) hx hb d_Model_isConflict_84 (by decide) ?_
                  refine lv_goto (tgt := 89) hx hb d_Model_isConflict_85 (by decide) ?_
                  refine lv_istore (lv' := [(4, .int 1), (3, .int 1), (5, .int (nI k)), (0, .ref ob), (1, .int (nI z)), (2, .int (nI i))]) hx hb d_Model_isConflict_89 hl (by decide) rfl (fun ls hl => ?_)
                  refine lv_iinc (v := nI (k + 1)) (lv' := [(5, .int (nI (k + 1))), (4, .int 1), (3, .int 1), (0, .ref ob), (1, .int (nI z)), (2, .int (nI i))]) hx hb d_Model_isConflict_91 hl (k := 2) rfl (nI_add k 1) (by decide) rfl (fun ls hl => ?_)
                  refine lv_goto (tgt := 24) hx hb d_Model_isConflict_94 (by decide) ?_
                  refine ih24 (k + 1, true, true) ls (show sc 1 - (k + 1) < sc 1 - k by omega) ?_ (lv_sub hl [0, 2, 1, 3, 4, 5] rfl)
                  exact ⟨by omega, by first | (rw [cf_un, if_pos (by simp [mo_so, c_4, c_4n, c_7, c_9, c_11, c_12, c_12n, c_13]; done)]; done) | (rw [cf_un, if_neg (by simp [mo_so, c_4, c_4n, c_7, c_9, c_11, c_12, c_12n, c_13]; done), ← hI]; done), by first | (rw [cf_st, if_pos (by simp [mo_so, c_4, c_4n, c_7, c_9, c_11, c_12, c_12n, c_13]; done), ← hI2]; simp [c_4, c_4n, c_7, c_9, c_11, c_12, c_12n, c_13]; done) | (rw [cf_st, if_neg (by simp [mo_so, c_4, c_4n, c_7, c_9, c_11, c_12, c_12n, c_13]; done), ← hI2]; done), by rw [nn_any, hI3]; simp [mo_so, mo_ce, c_4, c_4n, c_7, c_9, c_11, c_12, c_12n, c_13]⟩
                · have c_13 : st = false := bI_f c_13
                  refine lv_aload_n hx hb d_Model_isConflict_74 rfl (lv_at hl 3 rfl) ?_
                  refine lv_iload_n hx hb d_Model_isConflict_75 rfl (lv_at hl 4 rfl) ?_
                  refine lv_iload hx hb d_Model_isConflict_76 (lv_at hl 1 rfl) ?_
                  refine vp_callSi (va_Run.run (sy_runV (As := [.int (nI z), .int (nI k)]) (rest := []) (b := ob) ⟨hx, hb, hml, hown, ht⟩ cl_Model_112 (c_Model_isChosen l G ob ad sc mI mL mZ z k (by omega) (by omega)) hK hP (va_recv hK.1 hP (ci := 7) (q0 := 0) rfl rfl) rfl nm_Model_isChosen rfl rfl ⟨Nat.le_of_ble_eq_true rfl, Nat.le_of_ble_eq_true rfl⟩ hl.1 (Nat.le_of_ble_eq_true rfl) d_Model_isConflict_78 ⟨Nat.zero_le _, Nat.zero_le _⟩)) (fun r_14 hr_14 => ?_)
                  subst hr_14
                  refine lv_if_eq (tgt := 88) hx hb d_Model_isConflict_81 (by decide) (fun c_15 => ?_) (fun c_15 => ?_)
                  · have c_15 : (mo_cs mI mL mZ z k) = false := bI_f c_15
                    refine lv_iconst (v := 0) hx hb d_Model_isConflict_88 (by decide) ?_
                    refine lv_istore (lv' := [(4, .int 0), (3, .int 1), (5, .int (nI k)), (0, .ref ob), (1, .int (nI z)), (2, .int (nI i))]) hx hb d_Model_isConflict_89 hl (by decide) rfl (fun ls hl => ?_)
                    refine lv_iinc (v := nI (k + 1)) (lv' := [(5, .int (nI (k + 1))), (4, .int 0), (3, .int 1), (0, .ref ob), (1, .int (nI z)), (2, .int (nI i))]) hx hb d_Model_isConflict_91 hl (k := 2) rfl (nI_add k 1) (by decide) rfl (fun ls hl => ?_)
                    refine lv_goto (tgt := 24) hx hb d_Model_isConflict_94 (by decide) ?_
                    refine ih24 (k + 1, true, false) ls (show sc 1 - (k + 1) < sc 1 - k by omega) ?_ (lv_sub hl [0, 2, 1, 3, 4, 5] rfl)
                    exact ⟨by omega, by first | (rw [cf_un, if_pos (by simp [mo_so, c_4, c_4n, c_7, c_9, c_11, c_12, c_12n, c_13, c_15]; done)]; done) | (rw [cf_un, if_neg (by simp [mo_so, c_4, c_4n, c_7, c_9, c_11, c_12, c_12n, c_13, c_15]; done), ← hI]; done), by first | (rw [cf_st, if_pos (by simp [mo_so, c_4, c_4n, c_7, c_9, c_11, c_12, c_12n, c_13, c_15]; done), ← hI2]; simp [c_4, c_4n, c_7, c_9, c_11, c_12, c_12n, c_13, c_15]; done) | (rw [cf_st, if_neg (by simp [mo_so, c_4, c_4n, c_7, c_9, c_11, c_12, c_12n, c_13, c_15]; done), ← hI2]; done), by rw [nn_any, hI3]; simp [mo_so, mo_ce, c_4, c_4n, c_7, c_9, c_11, c_12, c_12n, c_13, c_15]⟩
                  · have c_15 : (mo_cs mI mL mZ z k) = true := bI_t c_15
                    refine lv_iconst (v := 1) hx hb d_Model_isConflict_84 (by decide) ?_
                    refine lv_goto (tgt := 89) hx hb d_Model_isConflict_85 (by decide) ?_
                    refine lv_istore (lv' := [(4, .int 1), (3, .int 1), (5, .int (nI k)), (0, .ref ob), (1, .int (nI z)), (2, .int (nI i))]) hx hb d_Model_isConflict_89 hl (by decide) rfl (fun ls hl => ?_)
                    refine lv_iinc (v := nI (k + 1)) (lv' := [(5, .int (nI (k + 1))), (4, .int 1), (3, .int 1), (0, .ref ob), (1, .int (nI z)), (2, .int (nI i))]) hx hb d_Model_isConflict_91 hl (k := 2) rfl (nI_add k 1) (by decide) rfl (fun ls hl => ?_)
                    refine lv_goto (tgt := 24) hx hb d_Model_isConflict_94 (by decide) ?_
                    refine ih24 (k + 1, true, true) ls (show sc 1 - (k + 1) < sc 1 - k by omega) ?_ (lv_sub hl [0, 2, 1, 3, 4, 5] rfl)
                    exact ⟨by omega, by first | (rw [cf_un, if_pos (by simp [mo_so, c_4, c_4n, c_7, c_9, c_11, c_12, c_12n, c_13, c_15]; done)]; done) | (rw [cf_un, if_neg (by simp [mo_so, c_4, c_4n, c_7, c_9, c_11, c_12, c_12n, c_13, c_15]; done), ← hI]; done), by first | (rw [cf_st, if_pos (by simp [mo_so, c_4, c_4n, c_7, c_9, c_11, c_12, c_12n, c_13, c_15]; done), ← hI2]; simp [c_4, c_4n, c_7, c_9, c_11, c_12, c_12n, c_13, c_15]; done) | (rw [cf_st, if_neg (by simp [mo_so, c_4, c_4n, c_7, c_9, c_11, c_12, c_12n, c_13, c_15]; done), ← hI2]; done), by rw [nn_any, hI3]; simp [mo_so, mo_ce, c_4, c_4n, c_7, c_9, c_11, c_12, c_12n, c_13, c_15]⟩
              · have c_12 : ¬ i ≤ k := fun h9 => c_12 ((nI_leI (a := i) (b := k) (by omega) (by omega)).mpr h9)
                have c_12n : k < i := by omega
                refine lv_iconst (v := 0) hx hb d_Model_isConflict_65 (by decide) ?_
                exact W.zret (v := (0 : Int32)) hx hb hr (rfl) (fun t ht hW => ⟨(0 : Int32), rfl, by first | (simp [bI, mo_cf, c_4, c_4n, c_7, c_9, c_11, c_12, c_12n]; done) | (rw [mo_cf, nn_any_of (p := mo_ce mI mL mZ z i) (k := k) (by omega) (by simp [mo_ce, mo_so, c_4, c_4n, c_7, c_9, c_11, c_12, c_12n]; done)]; simp [bI]; done) | (simp [bI, mo_cf, c_2, c_4, c_4n, c_7, c_9, c_11, c_12, c_12n] <;> simp [show sc 1 = k by omega, hI3, ← hI, ← hI2, c_4, c_4n, c_7, c_9, c_11, c_12, c_12n]; done), ht⟩) (fun q h => by cases h) d_Model_isConflict_66
    · exact ⟨Nat.zero_le _, rfl, rfl, rfl⟩
  · have c_2 : (mo_he mI mL mZ z i) = false := bI_f c_2
    refine lv_iconst (v := 0) hx hb d_Model_isConflict_9 (by decide) ?_
    exact W.zret (v := (0 : Int32)) hx hb hr (rfl) (fun t ht hW => ⟨(0 : Int32), rfl, by first | (simp [bI, mo_cf, c_2]; done) | (rw [mo_cf, nn_any_of (p := mo_ce mI mL mZ z i) (k := k) (by omega) (by simp [mo_ce, mo_so, c_2]; done)]; simp [bI]; done) | (simp [bI, mo_cf, c_2] <;> simp [show sc 1 = k by omega, hI3, ← hI, ← hI2, c_2]; done), ht⟩) (fun q h => by cases h) d_Model_isConflict_10
set_option maxHeartbeats 4000000 in
set_option maxRecDepth 100000 in
theorem c_Model_conflicts (l : Launch) (G : sy_G) (ob : Nat) (ad : Nat → Nat) (sc : Nat → Nat) (mI : Nat → Nat → Int32) (mL : Nat → Nat → Int64) (mZ : Nat → Nat → Bool) (z : Nat) (hn : sc 1 ≤ 60) (hz : z < 12) : Met l y_Model_conflicts (sy_w y_Model_conflicts b_Model_conflicts 4 (some .int)) { frames := 3, cells := 0, slots := 0, locals := 69 } (va_Pc [.ref ob, .int (nI z)] (sy_KP G (va_P G.1 classes (mw G.2 ob ad sc mI mL mZ)))) (vp_Si (fun r => r = nI (mo_cn mI mL mZ (sc 1) z))) 0 0 (fun _ => False) := by
  refine Met.ofW (cc := b_Model_conflicts) (maxL := 4) (ret := (some .int)) (by decide) rfl ?_
  intro p e s m args below meth c s₁ B hml hv
  obtain ⟨rfl, hP, hK⟩ := hv
  have hx := B.exec
  have hb := B.bytes
  have hr := B.returns
  have hts := atoms_spec (ws := sy_w y_Model_conflicts b_Model_conflicts 4 (some .int)) B.pre
  have ht : ∀ wd ∈ sy_T, wd.before ([.ref ob, .int (nI z)] : List Value).toArray s = true := fun wd h => hts wd (List.mem_cons_of_mem _ h)
  have hown : s.vm.findClass R_Model = some m.cls := findClass_of_methodNamed B.named
  have hlocks := B.notSynchronized
  have hl := lv_entry ([.ref ob, .int (nI z)]) (n := 4) (Nat.le_of_ble_eq_true rfl)
  rw [lg_entry_eq]
  generalize (lg_sl ([.ref ob, .int (nI z)]) ++ List.replicate (4 - (lg_sl ([.ref ob, .int (nI z)])).length) Slot.unset).toArray = ls at hl ⊢
  have hl : lv_has ls 4 [(0, .ref ob), (1, .int (nI z))] := hl
  refine lv_iconst (v := 0) hx hb d_Model_conflicts_0 (by decide) ?_
  refine lv_istore_n (lv' := [(2, .int 0), (0, .ref ob), (1, .int (nI z))]) hx hb d_Model_conflicts_1 rfl hl (by decide) rfl (fun ls hl => ?_)
  refine lv_iconst (v := 0) hx hb d_Model_conflicts_2 (by decide) ?_
  refine lv_istore_n (lv' := [(3, .int 0), (2, .int 0), (0, .ref ob), (1, .int (nI z))]) hx hb d_Model_conflicts_3 rfl hl (by decide) rfl (fun ls hl => ?_)
  refine sy_loop (σ := Nat × Nat) (nL := 4) (fun x4 => match x4 with | (k, f) => sc 1 - k) (fun x4 => match x4 with | (k, f) => [(3, .int (nI k)), (2, .int (nI f)), (0, .ref ob), (1, .int (nI z))]) (fun x4 => match x4 with | (k, f) => k ≤ sc 1 ∧ f = nn_ct (mo_cf mI mL mZ (sc 1) z) k) ?_ (0, 0) ?_ (lv_sub hl [0, 1, 2, 3] rfl)
  · intro x4 ls hI hl ih4
    obtain ⟨k, f⟩ := x4
    have hl : lv_has ls 4 [(3, .int (nI k)), (2, .int (nI f)), (0, .ref ob), (1, .int (nI z))] := hl
    obtain ⟨hk, hI⟩ := hI
    have hfk : f ≤ k := by rw [hI]; exact nn_ct_le
    refine lv_iload_n hx hb d_Model_conflicts_4 rfl (lv_at hl 0 rfl) ?_
    refine lv_aload_n hx hb d_Model_conflicts_5 rfl (lv_at hl 2 rfl) ?_
    refine va_get (D := G.1) (ci := 7) (v := .int (nI (sc 1))) (C := R_Model) (T := F_Model) (N := 23) hx hb ht i_Model hown hK.1 hP 0 rfl rfl 3 (by decide) (ht _ m_508) (fun _ h9 => h9) rfl d_Model_conflicts_6 ?_
    refine lv_icmp_ge (tgt := 35) hx hb d_Model_conflicts_9 (by decide) (fun c_1 => ?_) (fun c_1 => ?_)
    · have c_1 : (sc 1) ≤ k := (nI_leI (a := sc 1) (b := k) (by omega) (by omega)).mp c_1
      have c_1n : ¬ k < (sc 1) := by omega
      refine lv_iload_n hx hb d_Model_conflicts_35 rfl (lv_at hl 1 rfl) ?_
      exact W.iret (v := nI f) hx hb hr (fun t ht hW => ⟨nI f, rfl, by rw [hI, show k = sc 1 by omega] <;> rfl, ht⟩) (fun q h => by cases h) d_Model_conflicts_36
    · have c_1 : ¬ (sc 1) ≤ k := fun h9 => c_1 ((nI_leI (a := sc 1) (b := k) (by omega) (by omega)).mpr h9)
      have c_1n : k < (sc 1) := by omega
      refine lv_aload_n hx hb d_Model_conflicts_12 rfl (lv_at hl 2 rfl) ?_
      refine lv_iload_n hx hb d_Model_conflicts_13 rfl (lv_at hl 3 rfl) ?_
      refine lv_iload_n hx hb d_Model_conflicts_14 rfl (lv_at hl 0 rfl) ?_
      refine vp_callSi (va_Run.run (sy_runV (As := [.int (nI z), .int (nI k)]) (rest := []) (b := ob) ⟨hx, hb, hml, hown, ht⟩ cl_Model_133 (c_Model_isConflict l G ob ad sc mI mL mZ z k (by omega) (by omega) (by omega)) hK hP (va_recv hK.1 hP (ci := 7) (q0 := 0) rfl rfl) rfl nm_Model_isConflict rfl rfl ⟨Nat.le_of_ble_eq_true rfl, Nat.le_of_ble_eq_true rfl⟩ hl.1 (Nat.le_of_ble_eq_true rfl) d_Model_conflicts_15 ⟨Nat.zero_le _, Nat.zero_le _⟩)) (fun r_2 hr_2 => ?_)
      subst hr_2
      refine lv_if_eq (tgt := 27) hx hb d_Model_conflicts_18 (by decide) (fun c_3 => ?_) (fun c_3 => ?_)
      · have c_3 : (mo_cf mI mL mZ (sc 1) z k) = false := bI_f c_3
        refine lv_iload_n hx hb d_Model_conflicts_27 rfl (lv_at hl 1 rfl) ?_
        refine lv_istore_n (lv' := [(2, .int (nI f)), (3, .int (nI k)), (0, .ref ob), (1, .int (nI z))]) hx hb d_Model_conflicts_28 rfl hl (by decide) rfl (fun ls hl => ?_)
        refine lv_iinc (v := nI (k + 1)) (lv' := [(3, .int (nI (k + 1))), (2, .int (nI f)), (0, .ref ob), (1, .int (nI z))]) hx hb d_Model_conflicts_29 hl (k := 1) rfl (nI_add k 1) (by decide) rfl (fun ls hl => ?_)
        refine lv_goto (tgt := 4) hx hb d_Model_conflicts_32 (by decide) ?_
        refine ih4 (k + 1, f) ls (show sc 1 - (k + 1) < sc 1 - k by omega) ?_ (lv_sub hl [0, 1, 2, 3] rfl)
        exact ⟨by omega, by first | (rw [nn_ct, if_pos (by simp [c_1, c_1n, c_3]; done), ← hI]; done) | (rw [nn_ct, if_neg (by simp [c_1, c_1n, c_3]; done), ← hI])⟩
      · have c_3 : (mo_cf mI mL mZ (sc 1) z k) = true := bI_t c_3
        refine lv_iload_n hx hb d_Model_conflicts_21 rfl (lv_at hl 1 rfl) ?_
        refine lv_iconst (v := 1) hx hb d_Model_conflicts_22 (by decide) ?_
        refine lv_iadd hx hb d_Model_conflicts_23 ?_
        refine sy_ti (y := nI (f + 1)) (nI_add f 1) ?_
        refine lv_goto (tgt := 28) hx hb d_Model_conflicts_24 (by decide) ?_
        refine lv_istore_n (lv' := [(2, .int (nI (f + 1))), (3, .int (nI k)), (0, .ref ob), (1, .int (nI z))]) hx hb d_Model_conflicts_28 rfl hl (by decide) rfl (fun ls hl => ?_)
        refine lv_iinc (v := nI (k + 1)) (lv' := [(3, .int (nI (k + 1))), (2, .int (nI (f + 1))), (0, .ref ob), (1, .int (nI z))]) hx hb d_Model_conflicts_29 hl (k := 1) rfl (nI_add k 1) (by decide) rfl (fun ls hl => ?_)
        refine lv_goto (tgt := 4) hx hb d_Model_conflicts_32 (by decide) ?_
        refine ih4 (k + 1, f + 1) ls (show sc 1 - (k + 1) < sc 1 - k by omega) ?_ (lv_sub hl [0, 1, 2, 3] rfl)
        exact ⟨by omega, by first | (rw [nn_ct, if_pos (by simp [c_1, c_1n, c_3]; done), ← hI]; done) | (rw [nn_ct, if_neg (by simp [c_1, c_1n, c_3]; done), ← hI])⟩
  · exact ⟨Nat.zero_le _, rfl⟩
set_option maxHeartbeats 4000000 in
set_option maxRecDepth 100000 in
theorem c_Model_life (l : Launch) (G : sy_G) (ob : Nat) (ad : Nat → Nat) (sc : Nat → Nat) (mI : Nat → Nat → Int32) (mL : Nat → Nat → Int64) (mZ : Nat → Nat → Bool) (d : Int32) (hd : sc 0 ≤ 4) : Met l y_Model_life (sy_w y_Model_life b_Model_life 2 (some .int)) { frames := 1, cells := 0, slots := 0, locals := 21 } (va_Pc [.ref ob, .int d] (sy_KP G (va_P G.1 classes (mw G.2 ob ad sc mI mL mZ)))) (vp_Si (fun r => r = mo_life sc mI d)) 0 0 (fun _ => False) := by
  refine Met.ofW (cc := b_Model_life) (maxL := 2) (ret := (some .int)) (by decide) rfl ?_
  intro p e s m args below meth c s₁ B hml hv
  obtain ⟨rfl, hP, hK⟩ := hv
  have hx := B.exec
  have hb := B.bytes
  have hr := B.returns
  have hts := atoms_spec (ws := sy_w y_Model_life b_Model_life 2 (some .int)) B.pre
  have ht : ∀ wd ∈ sy_T, wd.before ([.ref ob, .int d] : List Value).toArray s = true := fun wd h => hts wd (List.mem_cons_of_mem _ h)
  have hown : s.vm.findClass R_Model = some m.cls := findClass_of_methodNamed B.named
  have hlocks := B.notSynchronized
  have hl := lv_entry ([.ref ob, .int d]) (n := 2) (Nat.le_of_ble_eq_true rfl)
  rw [lg_entry_eq]
  generalize (lg_sl ([.ref ob, .int d]) ++ List.replicate (2 - (lg_sl ([.ref ob, .int d])).length) Slot.unset).toArray = ls at hl ⊢
  have hl : lv_has ls 2 [(0, .ref ob), (1, .int d)] := hl
  refine lv_aload_n hx hb d_Model_life_0 rfl (lv_at hl 0 rfl) ?_
  refine lv_iload_n hx hb d_Model_life_1 rfl (lv_at hl 1 rfl) ?_
  refine vp_callSi (va_Run.run (sy_runV (As := [.int d]) (rest := []) (b := ob) ⟨hx, hb, hml, hown, ht⟩ cl_Model_73 (c_Model_isDevice l G ob ad sc mI mL mZ d (by omega)) hK hP (va_recv hK.1 hP (ci := 7) (q0 := 0) rfl rfl) rfl nm_Model_isDevice rfl rfl ⟨Nat.le_of_ble_eq_true rfl, Nat.le_of_ble_eq_true rfl⟩ hl.1 (Nat.le_of_ble_eq_true rfl) d_Model_life_2 ⟨Nat.zero_le _, Nat.zero_le _⟩)) (fun r_1 hr_1 => ?_)
  subst hr_1
  refine lv_if_eq (tgt := 17) hx hb d_Model_life_5 (by decide) (fun c_2 => ?_) (fun c_2 => ?_)
  · have c_2 : (mo_ok (sc 0) d) = false := bI_f c_2
    refine lv_iconst (v := (-1)) hx hb d_Model_life_17 (by decide) ?_
    exact W.iret (v := (-1 : Int32)) hx hb hr (fun t ht hW => ⟨(-1 : Int32), rfl, by simp [mo_life, c_2], ht⟩) (fun q h => by cases h) d_Model_life_18
  · have c_2 : (mo_ok (sc 0) d) = true := bI_t c_2
    obtain ⟨zd, hzd, ezd⟩ := mo_ix (by omega) c_2
    subst ezd
    have hczd : (nI zd).toNatClampNeg = zd := nI_clamp (by omega)
    refine lv_aload_n hx hb d_Model_life_8 rfl (lv_at hl 0 rfl) ?_
    refine va_get (D := G.1) (ci := 7) (v := .ref (ad 0)) (C := R_Model) (T := F_Model) (N := 23) hx hb ht i_Model hown hK.1 hP 0 rfl rfl 1 (by decide) (ht _ m_506) (fun _ h9 => h9) rfl d_Model_life_9 ?_
    refine lv_iload_n hx hb d_Model_life_12 rfl (lv_at hl 1 rfl) ?_
    refine sy_iald hx hb hK.1 hP 1 0 rfl rfl (k := zd) (by omega) (by decide) d_Model_life_13 ?_
    refine lv_goto (tgt := 18) hx hb d_Model_life_14 (by decide) ?_
    exact W.iret (v := mI 0 zd) hx hb hr (fun t ht hW => ⟨mI 0 zd, rfl, by simp [mo_life, c_2, hczd], ht⟩) (fun q h => by cases h) d_Model_life_18
set_option maxHeartbeats 4000000 in
set_option maxRecDepth 100000 in
theorem c_Model_kept (l : Launch) (G : sy_G) (ob : Nat) (ad : Nat → Nat) (sc : Nat → Nat) (mI : Nat → Nat → Int32) (mL : Nat → Nat → Int64) (mZ : Nat → Nat → Bool) (d : Int32) (kd : Int32) (hn : sc 1 ≤ 60) (hs : sc 3 ≤ 6) : Met l y_Model_kept (sy_w y_Model_kept b_Model_kept 6 (some .long)) { frames := 1, cells := 0, slots := 0, locals := 22 } (va_Pc [.ref ob, .int d, .int kd] (sy_KP G (va_P G.1 classes (mw G.2 ob ad sc mI mL mZ)))) (vp_Sl (fun r => r = mo_kept sc mI mL mZ d kd)) 0 0 (fun _ => False) := by
  refine Met.ofW (cc := b_Model_kept) (maxL := 6) (ret := (some .long)) (by decide) rfl ?_
  intro p e s m args below meth c s₁ B hml hv
  obtain ⟨rfl, hP, hK⟩ := hv
  have hx := B.exec
  have hb := B.bytes
  have hr := B.returns
  have hts := atoms_spec (ws := sy_w y_Model_kept b_Model_kept 6 (some .long)) B.pre
  have ht : ∀ wd ∈ sy_T, wd.before ([.ref ob, .int d, .int kd] : List Value).toArray s = true := fun wd h => hts wd (List.mem_cons_of_mem _ h)
  have hown : s.vm.findClass R_Model = some m.cls := findClass_of_methodNamed B.named
  have hlocks := B.notSynchronized
  have hl := lv_entry ([.ref ob, .int d, .int kd]) (n := 6) (Nat.le_of_ble_eq_true rfl)
  rw [lg_entry_eq]
  generalize (lg_sl ([.ref ob, .int d, .int kd]) ++ List.replicate (6 - (lg_sl ([.ref ob, .int d, .int kd])).length) Slot.unset).toArray = ls at hl ⊢
  have hl : lv_has ls 6 [(0, .ref ob), (1, .int d), (2, .int kd)] := hl
  refine lv_lconst (v := 0) hx hb d_Model_kept_0 (by decide) ?_
  refine lv_lstore_n (lv' := [(3, .long 0), (0, .ref ob), (1, .int d), (2, .int kd)]) hx hb d_Model_kept_1 rfl hl (by decide) rfl (fun ls hl => ?_)
  refine lv_iconst (v := 0) hx hb d_Model_kept_2 (by decide) ?_
  refine lv_istore (lv' := [(5, .int 0), (3, .long 0), (0, .ref ob), (1, .int d), (2, .int kd)]) hx hb d_Model_kept_3 hl (by decide) rfl (fun ls hl => ?_)
  refine sy_loop (σ := Nat × Int64) (nL := 6) (fun x5 => match x5 with | (k, f) => sc 1 - k) (fun x5 => match x5 with | (k, f) => [(5, .int (nI k)), (3, .long f), (0, .ref ob), (1, .int d), (2, .int kd)]) (fun x5 => match x5 with | (k, f) => k ≤ sc 1 ∧ f = nn_sm (mo_kq sc mI mL mZ d kd) (mL 7) k) ?_ (0, (0 : Int64)) ?_ (lv_sub hl [0, 1, 2, 3, 4] rfl)
  · intro x5 ls hI hl ih5
    obtain ⟨k, f⟩ := x5
    have hl : lv_has ls 6 [(5, .int (nI k)), (3, .long f), (0, .ref ob), (1, .int d), (2, .int kd)] := hl
    obtain ⟨hk, hI⟩ := hI
    refine lv_iload hx hb d_Model_kept_5 (lv_at hl 0 rfl) ?_
    refine lv_aload_n hx hb d_Model_kept_7 rfl (lv_at hl 2 rfl) ?_
    refine va_get (D := G.1) (ci := 7) (v := .int (nI (sc 1))) (C := R_Model) (T := F_Model) (N := 23) hx hb ht i_Model hown hK.1 hP 0 rfl rfl 3 (by decide) (ht _ m_508) (fun _ h9 => h9) rfl d_Model_kept_8 ?_
    refine lv_icmp_ge (tgt := 78) hx hb d_Model_kept_11 (by decide) (fun c_1 => ?_) (fun c_1 => ?_)
    · have c_1 : (sc 1) ≤ k := (nI_leI (a := sc 1) (b := k) (by omega) (by omega)).mp c_1
      have c_1n : ¬ k < (sc 1) := by omega
      refine lv_lload_n hx hb d_Model_kept_78 rfl (lv_at hl 1 rfl) ?_
      exact W.lret (v := f) hx hb hr (fun t ht hW => ⟨f, rfl, by rw [hI, show k = sc 1 by omega] <;> rfl, ht⟩) (fun q h => by cases h) d_Model_kept_79
    · have c_1 : ¬ (sc 1) ≤ k := fun h9 => c_1 ((nI_leI (a := sc 1) (b := k) (by omega) (by omega)).mpr h9)
      have c_1n : k < (sc 1) := by omega
      refine lv_lload_n hx hb d_Model_kept_14 rfl (lv_at hl 1 rfl) ?_
      refine lv_aload_n hx hb d_Model_kept_15 rfl (lv_at hl 2 rfl) ?_
      refine lv_iload_n hx hb d_Model_kept_16 rfl (lv_at hl 3 rfl) ?_
      refine vp_callSi (va_Run.run (sy_runV (As := [.int d]) (rest := [.long f]) (b := ob) ⟨hx, hb, hml, hown, ht⟩ cl_Model_96 (c_Model_isSet l G ob ad sc mI mL mZ d (by omega)) hK hP (va_recv hK.1 hP (ci := 7) (q0 := 0) rfl rfl) rfl nm_Model_isSet rfl rfl ⟨Nat.le_of_ble_eq_true rfl, Nat.le_of_ble_eq_true rfl⟩ hl.1 (Nat.le_of_ble_eq_true rfl) d_Model_kept_17 ⟨Nat.zero_le _, Nat.zero_le _⟩)) (fun r_2 hr_2 => ?_)
      subst hr_2
      refine lv_if_eq (tgt := 69) hx hb d_Model_kept_20 (by decide) (fun c_3 => ?_) (fun c_3 => ?_)
      · have c_3 : (mo_ok (sc 3) d) = false := bI_f c_3
        refine lv_lconst (v := 0) hx hb d_Model_kept_69 (by decide) ?_
        refine lv_ladd hx hb d_Model_kept_70 ?_
        refine lv_lstore_n (lv' := [(3, .long (f + 0)), (5, .int (nI k)), (0, .ref ob), (1, .int d), (2, .int kd)]) hx hb d_Model_kept_71 rfl hl (by decide) rfl (fun ls hl => ?_)
        refine lv_iinc (v := nI (k + 1)) (lv' := [(5, .int (nI (k + 1))), (3, .long (f + 0)), (0, .ref ob), (1, .int d), (2, .int kd)]) hx hb d_Model_kept_72 hl (k := 1) rfl (nI_add k 1) (by decide) rfl (fun ls hl => ?_)
        refine lv_goto (tgt := 5) hx hb d_Model_kept_75 (by decide) ?_
        refine ih5 (k + 1, f + 0) ls (show sc 1 - (k + 1) < sc 1 - k by omega) ?_ (lv_sub hl [0, 1, 2, 3, 4] rfl)
        exact ⟨by omega, by first | (rw [nn_sm, if_pos (by simp [mo_kq, c_1, c_1n, c_3]; done), ← hI]; done) | (rw [nn_sm, if_neg (by simp [mo_kq, c_1, c_1n, c_3]; done), ← hI, Int64.add_zero])⟩
      · have c_3 : (mo_ok (sc 3) d) = true := bI_t c_3
        obtain ⟨zd, hzd, ezd⟩ := mo_ix (by omega) c_3
        subst ezd
        have hczd : (nI zd).toNatClampNeg = zd := nI_clamp (by omega)
        refine lv_aload_n hx hb d_Model_kept_23 rfl (lv_at hl 2 rfl) ?_
        refine va_get (D := G.1) (ci := 7) (v := .ref (ad 5)) (C := R_Model) (T := F_Model) (N := 23) hx hb ht i_Model hown hK.1 hP 0 rfl rfl 7 (by decide) (ht _ m_512) (fun _ h9 => h9) rfl d_Model_kept_24 ?_
        refine lv_iload hx hb d_Model_kept_27 (lv_at hl 0 rfl) ?_
        refine sy_iald hx hb hK.1 hP 6 0 rfl rfl (k := k) (by omega) (by decide) d_Model_kept_29 ?_
        refine lv_iload_n hx hb d_Model_kept_30 rfl (lv_at hl 4 rfl) ?_
        refine lv_icmp_ne (tgt := 69) hx hb d_Model_kept_31 (by decide) (fun c_4 => ?_) (fun c_4 => ?_)
        · refine lv_lconst (v := 0) hx hb d_Model_kept_69 (by decide) ?_
          refine lv_ladd hx hb d_Model_kept_70 ?_
          refine lv_lstore_n (lv' := [(3, .long (f + 0)), (5, .int (nI k)), (0, .ref ob), (1, .int (nI zd)), (2, .int kd)]) hx hb d_Model_kept_71 rfl hl (by decide) rfl (fun ls hl => ?_)
          refine lv_iinc (v := nI (k + 1)) (lv' := [(5, .int (nI (k + 1))), (3, .long (f + 0)), (0, .ref ob), (1, .int (nI zd)), (2, .int kd)]) hx hb d_Model_kept_72 hl (k := 1) rfl (nI_add k 1) (by decide) rfl (fun ls hl => ?_)
          refine lv_goto (tgt := 5) hx hb d_Model_kept_75 (by decide) ?_
          refine ih5 (k + 1, f + 0) ls (show sc 1 - (k + 1) < sc 1 - k by omega) ?_ (lv_sub hl [0, 1, 2, 3, 4] rfl)
          exact ⟨by omega, by first | (rw [nn_sm, if_pos (by simp [mo_kq, c_1, c_1n, c_3, hczd, c_4]; done), ← hI]; done) | (rw [nn_sm, if_neg (by simp [mo_kq, c_1, c_1n, c_3, hczd, c_4]; done), ← hI, Int64.add_zero])⟩
        · refine lv_aload_n hx hb d_Model_kept_34 rfl (lv_at hl 2 rfl) ?_
          refine va_get (D := G.1) (ci := 7) (v := .ref (ad 10)) (C := R_Model) (T := F_Model) (N := 23) hx hb ht i_Model hown hK.1 hP 0 rfl rfl 15 (by decide) (ht _ m_520) (fun _ h9 => h9) rfl d_Model_kept_35 ?_
          refine lv_bipush (v := 60) hx hb d_Model_kept_38 (by decide) ?_
          refine lv_iload_n hx hb d_Model_kept_40 rfl (lv_at hl 3 rfl) ?_
          refine lv_imul hx hb d_Model_kept_41 ?_
          refine sy_ti (y := nI (60 * zd)) (pk_mul 60 zd) ?_
          refine lv_iload hx hb d_Model_kept_42 (lv_at hl 0 rfl) ?_
          refine lv_iadd hx hb d_Model_kept_44 ?_
          refine sy_ti (y := nI ((60 * zd) + k)) (nI_add (60 * zd) k) ?_
          refine sy_zald hx hb hK.1 hP 11 2 rfl rfl (k := (60 * zd) + k) (by omega) (by decide) d_Model_kept_45 ?_
          refine lv_if_eq (tgt := 69) hx hb d_Model_kept_46 (by decide) (fun c_5 => ?_) (fun c_5 => ?_)
          · have c_5 : (mZ 10 ((60 * zd) + k)) = false := bI_f c_5
            refine lv_lconst (v := 0) hx hb d_Model_kept_69 (by decide) ?_
            refine lv_ladd hx hb d_Model_kept_70 ?_
            refine lv_lstore_n (lv' := [(3, .long (f + 0)), (5, .int (nI k)), (0, .ref ob), (1, .int (nI zd)), (2, .int kd)]) hx hb d_Model_kept_71 rfl hl (by decide) rfl (fun ls hl => ?_)
            refine lv_iinc (v := nI (k + 1)) (lv' := [(5, .int (nI (k + 1))), (3, .long (f + 0)), (0, .ref ob), (1, .int (nI zd)), (2, .int kd)]) hx hb d_Model_kept_72 hl (k := 1) rfl (nI_add k 1) (by decide) rfl (fun ls hl => ?_)
            refine lv_goto (tgt := 5) hx hb d_Model_kept_75 (by decide) ?_
            refine ih5 (k + 1, f + 0) ls (show sc 1 - (k + 1) < sc 1 - k by omega) ?_ (lv_sub hl [0, 1, 2, 3, 4] rfl)
            exact ⟨by omega, by first | (rw [nn_sm, if_pos (by simp [mo_kq, c_1, c_1n, c_3, hczd, c_4, c_5]; done), ← hI]; done) | (rw [nn_sm, if_neg (by simp [mo_kq, c_1, c_1n, c_3, hczd, c_4, c_5]; done), ← hI, Int64.add_zero])⟩
          · have c_5 : (mZ 10 ((60 * zd) + k)) = true := bI_t c_5
            refine lv_aload_n hx hb d_Model_kept_49 rfl (lv_at hl 2 rfl) ?_
            refine lv_iload_n hx hb d_Model_kept_50 rfl (lv_at hl 3 rfl) ?_
            refine lv_iload hx hb d_Model_kept_51 (lv_at hl 0 rfl) ?_
            refine vp_callSi (va_Run.run (sy_runV (As := [.int (nI zd), .int (nI k)]) (rest := [.long f]) (b := ob) ⟨hx, hb, hml, hown, ht⟩ cl_Model_109 (c_Model_isHere l G ob ad sc mI mL mZ zd k (by omega) (by omega)) hK hP (va_recv hK.1 hP (ci := 7) (q0 := 0) rfl rfl) rfl nm_Model_isHere rfl rfl ⟨Nat.le_of_ble_eq_true rfl, Nat.le_of_ble_eq_true rfl⟩ hl.1 (Nat.le_of_ble_eq_true rfl) d_Model_kept_53 ⟨Nat.zero_le _, Nat.zero_le _⟩)) (fun r_6 hr_6 => ?_)
            subst hr_6
            refine lv_if_ne (tgt := 69) hx hb d_Model_kept_56 (by decide) (fun c_7 => ?_) (fun c_7 => ?_)
            · have c_7 : (mo_he mI mL mZ zd k) = true := bI_t c_7
              refine lv_lconst (v := 0) hx hb d_Model_kept_69 (by decide) ?_
              refine lv_ladd hx hb d_Model_kept_70 ?_
              refine lv_lstore_n (lv' := [(3, .long (f + 0)), (5, .int (nI k)), (0, .ref ob), (1, .int (nI zd)), (2, .int kd)]) hx hb d_Model_kept_71 rfl hl (by decide) rfl (fun ls hl => ?_)
              refine lv_iinc (v := nI (k + 1)) (lv' := [(5, .int (nI (k + 1))), (3, .long (f + 0)), (0, .ref ob), (1, .int (nI zd)), (2, .int kd)]) hx hb d_Model_kept_72 hl (k := 1) rfl (nI_add k 1) (by decide) rfl (fun ls hl => ?_)
              refine lv_goto (tgt := 5) hx hb d_Model_kept_75 (by decide) ?_
              refine ih5 (k + 1, f + 0) ls (show sc 1 - (k + 1) < sc 1 - k by omega) ?_ (lv_sub hl [0, 1, 2, 3, 4] rfl)
              exact ⟨by omega, by first | (rw [nn_sm, if_pos (by simp [mo_kq, c_1, c_1n, c_3, hczd, c_4, c_5, c_7]; done), ← hI]; done) | (rw [nn_sm, if_neg (by simp [mo_kq, c_1, c_1n, c_3, hczd, c_4, c_5, c_7]; done), ← hI, Int64.add_zero])⟩
            · have c_7 : (mo_he mI mL mZ zd k) = false := bI_f c_7
              refine lv_aload_n hx hb d_Model_kept_59 rfl (lv_at hl 2 rfl) ?_
              refine va_get (D := G.1) (ci := 7) (v := .ref (ad 7)) (C := R_Model) (T := F_Model) (N := 23) hx hb ht i_Model hown hK.1 hP 0 rfl rfl 9 (by decide) (ht _ m_514) (fun _ h9 => h9) rfl d_Model_kept_60 ?_
              refine lv_iload hx hb d_Model_kept_63 (lv_at hl 0 rfl) ?_
              refine sy_lald hx hb hK.1 hP 8 1 rfl rfl (k := k) (by omega) (by decide) d_Model_kept_65 ?_
              refine lv_goto (tgt := 70) hx hb d_Model_kept_66 (by decide) ?_
              refine lv_ladd hx hb d_Model_kept_70 ?_
              refine lv_lstore_n (lv' := [(3, .long (f + (mL 7 k))), (5, .int (nI k)), (0, .ref ob), (1, .int (nI zd)), (2, .int kd)]) hx hb d_Model_kept_71 rfl hl (by decide) rfl (fun ls hl => ?_)
              refine lv_iinc (v := nI (k + 1)) (lv' := [(5, .int (nI (k + 1))), (3, .long (f + (mL 7 k))), (0, .ref ob), (1, .int (nI zd)), (2, .int kd)]) hx hb d_Model_kept_72 hl (k := 1) rfl (nI_add k 1) (by decide) rfl (fun ls hl => ?_)
              refine lv_goto (tgt := 5) hx hb d_Model_kept_75 (by decide) ?_
              refine ih5 (k + 1, f + (mL 7 k)) ls (show sc 1 - (k + 1) < sc 1 - k by omega) ?_ (lv_sub hl [0, 1, 2, 3, 4] rfl)
              exact ⟨by omega, by first | (rw [nn_sm, if_pos (by simp [mo_kq, c_1, c_1n, c_3, hczd, c_4, c_5, c_7]; done), ← hI]; done) | (rw [nn_sm, if_neg (by simp [mo_kq, c_1, c_1n, c_3, hczd, c_4, c_5, c_7]; done), ← hI, Int64.add_zero])⟩
  · exact ⟨Nat.zero_le _, rfl⟩
set_option maxHeartbeats 4000000 in
set_option maxRecDepth 100000 in
theorem c_Model_last (l : Launch) (G : sy_G) (ob : Nat) (ad : Nat → Nat) (sc : Nat → Nat) (mI : Nat → Nat → Int32) (mL : Nat → Nat → Int64) (mZ : Nat → Nat → Bool) (d : Int32) (dv : Int32) (kd : Int32) (hn : sc 1 ≤ 60) (hs : sc 3 ≤ 6) : Met l y_Model_last (sy_w y_Model_last b_Model_last 7 (some .long)) { frames := 3, cells := 0, slots := 0, locals := 69 } (va_Pc [.ref ob, .int d, .int dv, .int kd] (sy_KP G (va_P G.1 classes (mw G.2 ob ad sc mI mL mZ)))) (vp_Sl (fun r => r = mo_last sc mI mL mZ d dv kd)) 0 0 (fun _ => False) := by
  refine Met.ofW (cc := b_Model_last) (maxL := 7) (ret := (some .long)) (by decide) rfl ?_
  intro p e s m args below meth c s₁ B hml hv
  obtain ⟨rfl, hP, hK⟩ := hv
  have hx := B.exec
  have hb := B.bytes
  have hr := B.returns
  have hts := atoms_spec (ws := sy_w y_Model_last b_Model_last 7 (some .long)) B.pre
  have ht : ∀ wd ∈ sy_T, wd.before ([.ref ob, .int d, .int dv, .int kd] : List Value).toArray s = true := fun wd h => hts wd (List.mem_cons_of_mem _ h)
  have hown : s.vm.findClass R_Model = some m.cls := findClass_of_methodNamed B.named
  have hlocks := B.notSynchronized
  have hl := lv_entry ([.ref ob, .int d, .int dv, .int kd]) (n := 7) (Nat.le_of_ble_eq_true rfl)
  rw [lg_entry_eq]
  generalize (lg_sl ([.ref ob, .int d, .int dv, .int kd]) ++ List.replicate (7 - (lg_sl ([.ref ob, .int d, .int dv, .int kd])).length) Slot.unset).toArray = ls at hl ⊢
  have hl : lv_has ls 7 [(0, .ref ob), (1, .int d), (2, .int dv), (3, .int kd)] := hl
  refine lv_iconst (v := (-1)) hx hb d_Model_last_0 (by decide) ?_
  refine lv_istore (lv' := [(4, .int (-1)), (0, .ref ob), (1, .int d), (2, .int dv), (3, .int kd)]) hx hb d_Model_last_1 hl (by decide) rfl (fun ls hl => ?_)
  refine lv_iconst (v := 0) hx hb d_Model_last_3 (by decide) ?_
  refine lv_istore (lv' := [(5, .int 0), (4, .int (-1)), (0, .ref ob), (1, .int d), (2, .int dv), (3, .int kd)]) hx hb d_Model_last_4 hl (by decide) rfl (fun ls hl => ?_)
  refine sy_loop (σ := Nat × Option Nat) (nL := 7) (fun x6 => match x6 with | (k, o) => sc 1 - k) (fun x6 => match x6 with | (k, o) => [(5, .int (nI k)), (4, .int (oI o)), (0, .ref ob), (1, .int d), (2, .int dv), (3, .int kd)]) (fun x6 => match x6 with | (k, o) => k ≤ sc 1 ∧ o = nn_fm (mo_lp sc mI mL mZ d dv kd) (mo_ll mI) k) ?_ (0, none) ?_ (lv_sub hl [0, 1, 2, 3, 4, 5] rfl)
  · intro x6 ls hI hl ih6
    obtain ⟨k, o⟩ := x6
    have hl : lv_has ls 7 [(5, .int (nI k)), (4, .int (oI o)), (0, .ref ob), (1, .int d), (2, .int dv), (3, .int kd)] := hl
    obtain ⟨hk, hI⟩ := hI
    refine lv_iload hx hb d_Model_last_6 (lv_at hl 0 rfl) ?_
    refine lv_aload_n hx hb d_Model_last_8 rfl (lv_at hl 2 rfl) ?_
    refine va_get (D := G.1) (ci := 7) (v := .int (nI (sc 1))) (C := R_Model) (T := F_Model) (N := 23) hx hb ht i_Model hown hK.1 hP 0 rfl rfl 3 (by decide) (ht _ m_508) (fun _ h9 => h9) rfl d_Model_last_9 ?_
    refine lv_icmp_ge (tgt := 138) hx hb d_Model_last_12 (by decide) (fun c_1 => ?_) (fun c_1 => ?_)
    · have c_1 : (sc 1) ≤ k := (nI_leI (a := sc 1) (b := k) (by omega) (by omega)).mp c_1
      have c_1n : ¬ k < (sc 1) := by omega
      refine lv_iload hx hb d_Model_last_138 (lv_at hl 1 rfl) ?_
      rcases o with _ | j_2
      · have hl : lv_has ls 7 [(5, .int (nI k)), (4, .int (-1)), (0, .ref ob), (1, .int d), (2, .int dv), (3, .int kd)] := hl
        refine lv_if_ge (tgt := 149) hx hb d_Model_last_140 (by decide) (fun c_3 => absurd c_3 (by decide)) (fun c_3 => ?_)
        refine lv_ldc2 (v := (-9223372036854775808)) hx hb hown (ht _ m_659) d_Model_last_143 ?_
        refine lv_goto (tgt := 156) hx hb d_Model_last_146 (by decide) ?_
        exact W.lret (v := (-9223372036854775808 : Int64)) hx hb hr (fun t ht hW => ⟨(-9223372036854775808 : Int64), rfl, by rw [mo_last, show sc 1 = k by omega, ← hI]; rfl, ht⟩) (fun q h => by cases h) d_Model_last_156
      · have hl : lv_has ls 7 [(5, .int (nI k)), (4, .int (nI j_2)), (0, .ref ob), (1, .int d), (2, .int dv), (3, .int kd)] := hl
        have hj_2 : j_2 < k := nn_fm_lt hI.symm
        refine lv_if_ge (tgt := 149) hx hb d_Model_last_140 (by decide) (fun c_4 => ?_) (fun c_4 => absurd (nI_pos' (by omega)) c_4)
        refine lv_aload_n hx hb d_Model_last_149 rfl (lv_at hl 2 rfl) ?_
        refine va_get (D := G.1) (ci := 7) (v := .ref (ad 7)) (C := R_Model) (T := F_Model) (N := 23) hx hb ht i_Model hown hK.1 hP 0 rfl rfl 9 (by decide) (ht _ m_514) (fun _ h9 => h9) rfl d_Model_last_150 ?_
        refine lv_iload hx hb d_Model_last_153 (lv_at hl 1 rfl) ?_
        refine sy_lald hx hb hK.1 hP 8 1 rfl rfl (k := j_2) (by omega) (by decide) d_Model_last_155 ?_
        exact W.lret (v := mL 7 j_2) hx hb hr (fun t ht hW => ⟨mL 7 j_2, rfl, by rw [mo_last, show sc 1 = k by omega, ← hI]; rfl, ht⟩) (fun q h => by cases h) d_Model_last_156
    · have c_1 : ¬ (sc 1) ≤ k := fun h9 => c_1 ((nI_leI (a := sc 1) (b := k) (by omega) (by omega)).mpr h9)
      have c_1n : k < (sc 1) := by omega
      refine lv_aload_n hx hb d_Model_last_15 rfl (lv_at hl 2 rfl) ?_
      refine lv_iload_n hx hb d_Model_last_16 rfl (lv_at hl 3 rfl) ?_
      refine vp_callSi (va_Run.run (sy_runV (As := [.int d]) (rest := []) (b := ob) ⟨hx, hb, hml, hown, ht⟩ cl_Model_96 (c_Model_isSet l G ob ad sc mI mL mZ d (by omega)) hK hP (va_recv hK.1 hP (ci := 7) (q0 := 0) rfl rfl) rfl nm_Model_isSet rfl rfl ⟨Nat.le_of_ble_eq_true rfl, Nat.le_of_ble_eq_true rfl⟩ hl.1 (Nat.le_of_ble_eq_true rfl) d_Model_last_17 ⟨Nat.zero_le _, Nat.zero_le _⟩)) (fun r_5 hr_5 => ?_)
      subst hr_5
      refine lv_if_eq (tgt := 132) hx hb d_Model_last_20 (by decide) (fun c_6 => ?_) (fun c_6 => ?_)
      · have c_6 : (mo_ok (sc 3) d) = false := bI_f c_6
        refine lv_iinc (v := nI (k + 1)) (lv' := [(5, .int (nI (k + 1))), (4, .int (oI o)), (0, .ref ob), (1, .int d), (2, .int dv), (3, .int kd)]) hx hb d_Model_last_132 hl (k := 0) rfl (nI_add k 1) (by decide) rfl (fun ls hl => ?_)
        refine lv_goto (tgt := 6) hx hb d_Model_last_135 (by decide) ?_
        refine ih6 (k + 1, o) ls (show sc 1 - (k + 1) < sc 1 - k by omega) ?_ (lv_sub hl [0, 1, 2, 3, 4, 5] rfl)
        exact ⟨by omega, by first | (rw [nn_fm, if_pos (by simp [mo_lp, mo_ll, c_1, c_1n, c_6]; done), ← hI]; simp [nn_up, mo_lp, mo_ll, c_1, c_1n, c_6]; done) | (rw [nn_fm, if_neg (by simp [mo_lp, mo_ll, c_1, c_1n, c_6]; done), ← hI])⟩
      · have c_6 : (mo_ok (sc 3) d) = true := bI_t c_6
        obtain ⟨zd, hzd, ezd⟩ := mo_ix (by omega) c_6
        subst ezd
        have hczd : (nI zd).toNatClampNeg = zd := nI_clamp (by omega)
        refine lv_aload_n hx hb d_Model_last_23 rfl (lv_at hl 2 rfl) ?_
        refine va_get (D := G.1) (ci := 7) (v := .ref (ad 2)) (C := R_Model) (T := F_Model) (N := 23) hx hb ht i_Model hown hK.1 hP 0 rfl rfl 4 (by decide) (ht _ m_509) (fun _ h9 => h9) rfl d_Model_last_24 ?_
        refine lv_iload hx hb d_Model_last_27 (lv_at hl 0 rfl) ?_
        refine sy_iald hx hb hK.1 hP 3 0 rfl rfl (k := k) (by omega) (by decide) d_Model_last_29 ?_
        refine lv_iload_n hx hb d_Model_last_30 rfl (lv_at hl 4 rfl) ?_
        refine lv_icmp_ne (tgt := 132) hx hb d_Model_last_31 (by decide) (fun c_7 => ?_) (fun c_7 => ?_)
        · refine lv_iinc (v := nI (k + 1)) (lv' := [(5, .int (nI (k + 1))), (4, .int (oI o)), (0, .ref ob), (1, .int (nI zd)), (2, .int dv), (3, .int kd)]) hx hb d_Model_last_132 hl (k := 0) rfl (nI_add k 1) (by decide) rfl (fun ls hl => ?_)
          refine lv_goto (tgt := 6) hx hb d_Model_last_135 (by decide) ?_
          refine ih6 (k + 1, o) ls (show sc 1 - (k + 1) < sc 1 - k by omega) ?_ (lv_sub hl [0, 1, 2, 3, 4, 5] rfl)
          exact ⟨by omega, by first | (rw [nn_fm, if_pos (by simp [mo_lp, mo_ll, c_1, c_1n, c_6, hczd, c_7]; done), ← hI]; simp [nn_up, mo_lp, mo_ll, c_1, c_1n, c_6, hczd, c_7]; done) | (rw [nn_fm, if_neg (by simp [mo_lp, mo_ll, c_1, c_1n, c_6, hczd, c_7]; done), ← hI])⟩
        · refine lv_aload_n hx hb d_Model_last_34 rfl (lv_at hl 2 rfl) ?_
          refine va_get (D := G.1) (ci := 7) (v := .ref (ad 5)) (C := R_Model) (T := F_Model) (N := 23) hx hb ht i_Model hown hK.1 hP 0 rfl rfl 7 (by decide) (ht _ m_512) (fun _ h9 => h9) rfl d_Model_last_35 ?_
          refine lv_iload hx hb d_Model_last_38 (lv_at hl 0 rfl) ?_
          refine sy_iald hx hb hK.1 hP 6 0 rfl rfl (k := k) (by omega) (by decide) d_Model_last_40 ?_
          refine lv_iload_n hx hb d_Model_last_41 rfl (lv_at hl 5 rfl) ?_
          refine lv_icmp_ne (tgt := 132) hx hb d_Model_last_42 (by decide) (fun c_8 => ?_) (fun c_8 => ?_)
          · refine lv_iinc (v := nI (k + 1)) (lv' := [(5, .int (nI (k + 1))), (4, .int (oI o)), (0, .ref ob), (1, .int (nI zd)), (2, .int dv), (3, .int kd)]) hx hb d_Model_last_132 hl (k := 0) rfl (nI_add k 1) (by decide) rfl (fun ls hl => ?_)
            refine lv_goto (tgt := 6) hx hb d_Model_last_135 (by decide) ?_
            refine ih6 (k + 1, o) ls (show sc 1 - (k + 1) < sc 1 - k by omega) ?_ (lv_sub hl [0, 1, 2, 3, 4, 5] rfl)
            exact ⟨by omega, by first | (rw [nn_fm, if_pos (by simp [mo_lp, mo_ll, c_1, c_1n, c_6, hczd, c_7, c_8]; done), ← hI]; simp [nn_up, mo_lp, mo_ll, c_1, c_1n, c_6, hczd, c_7, c_8]; done) | (rw [nn_fm, if_neg (by simp [mo_lp, mo_ll, c_1, c_1n, c_6, hczd, c_7, c_8]; done), ← hI])⟩
          · refine lv_aload_n hx hb d_Model_last_45 rfl (lv_at hl 2 rfl) ?_
            refine lv_iload_n hx hb d_Model_last_46 rfl (lv_at hl 3 rfl) ?_
            refine lv_iload hx hb d_Model_last_47 (lv_at hl 0 rfl) ?_
            refine vp_callSi (va_Run.run (sy_runV (As := [.int (nI zd), .int (nI k)]) (rest := []) (b := ob) ⟨hx, hb, hml, hown, ht⟩ cl_Model_121 (c_Model_isSeen l G ob ad sc mI mL mZ zd k (by omega) (by omega) (by omega)) hK hP (va_recv hK.1 hP (ci := 7) (q0 := 0) rfl rfl) rfl nm_Model_isSeen rfl rfl ⟨Nat.le_of_ble_eq_true rfl, Nat.le_of_ble_eq_true rfl⟩ hl.1 (Nat.le_of_ble_eq_true rfl) d_Model_last_49 ⟨Nat.zero_le _, Nat.zero_le _⟩)) (fun r_9 hr_9 => ?_)
            subst hr_9
            refine lv_if_eq (tgt := 132) hx hb d_Model_last_52 (by decide) (fun c_10 => ?_) (fun c_10 => ?_)
            · have c_10 : (mo_se mI mL mZ (sc 1) zd k) = false := bI_f c_10
              refine lv_iinc (v := nI (k + 1)) (lv' := [(5, .int (nI (k + 1))), (4, .int (oI o)), (0, .ref ob), (1, .int (nI zd)), (2, .int dv), (3, .int kd)]) hx hb d_Model_last_132 hl (k := 0) rfl (nI_add k 1) (by decide) rfl (fun ls hl => ?_)
              refine lv_goto (tgt := 6) hx hb d_Model_last_135 (by decide) ?_
              refine ih6 (k + 1, o) ls (show sc 1 - (k + 1) < sc 1 - k by omega) ?_ (lv_sub hl [0, 1, 2, 3, 4, 5] rfl)
              exact ⟨by omega, by first | (rw [nn_fm, if_pos (by simp [mo_lp, mo_ll, c_1, c_1n, c_6, hczd, c_7, c_8, c_10]; done), ← hI]; simp [nn_up, mo_lp, mo_ll, c_1, c_1n, c_6, hczd, c_7, c_8, c_10]; done) | (rw [nn_fm, if_neg (by simp [mo_lp, mo_ll, c_1, c_1n, c_6, hczd, c_7, c_8, c_10]; done), ← hI])⟩
            · have c_10 : (mo_se mI mL mZ (sc 1) zd k) = true := bI_t c_10
              refine lv_iload hx hb d_Model_last_55 (lv_at hl 1 rfl) ?_
              rcases o with _ | j_11
              · have hl : lv_has ls 7 [(5, .int (nI k)), (4, .int (-1)), (0, .ref ob), (1, .int (nI zd)), (2, .int dv), (3, .int kd)] := hl
                refine lv_if_lt (tgt := 111) hx hb d_Model_last_57 (by decide) (fun c_12 => ?_) (fun c_12 => absurd (by decide) c_12)
                refine lv_iconst (v := 1) hx hb d_Model_last_111 (by decide) ?_
                refine lv_goto (tgt := 116) hx hb d_Model_last_112 (by decide) ?_
                refine lv_istore (lv' := [(6, .int 1), (5, .int (nI k)), (4, .int (-1)), (0, .ref ob), (1, .int (nI zd)), (2, .int dv), (3, .int kd)]) hx hb d_Model_last_116 hl (by decide) rfl (fun ls hl => ?_)
                refine lv_iload hx hb d_Model_last_118 (lv_at hl 0 rfl) ?_
                refine lv_if_eq (tgt := 128) hx hb d_Model_last_120 (by decide) (fun c_13 => absurd c_13 (by decide)) (fun c_13 => ?_)
                refine lv_iload hx hb d_Model_last_123 (lv_at hl 1 rfl) ?_
                refine lv_goto (tgt := 130) hx hb d_Model_last_125 (by decide) ?_
                refine lv_istore (lv' := [(4, .int (nI k)), (6, .int 1), (5, .int (nI k)), (0, .ref ob), (1, .int (nI zd)), (2, .int dv), (3, .int kd)]) hx hb d_Model_last_130 hl (by decide) rfl (fun ls hl => ?_)
                refine lv_iinc (v := nI (k + 1)) (lv' := [(5, .int (nI (k + 1))), (4, .int (nI k)), (6, .int 1), (0, .ref ob), (1, .int (nI zd)), (2, .int dv), (3, .int kd)]) hx hb d_Model_last_132 hl (k := 2) rfl (nI_add k 1) (by decide) rfl (fun ls hl => ?_)
                refine lv_goto (tgt := 6) hx hb d_Model_last_135 (by decide) ?_
                refine ih6 (k + 1, (some k)) ls (show sc 1 - (k + 1) < sc 1 - k by omega) ?_ (lv_sub hl [0, 1, 3, 4, 5, 6] rfl)
                exact ⟨by omega, by first | (rw [nn_fm, if_pos (by simp [mo_lp, mo_ll, c_1, c_1n, c_6, hczd, c_7, c_8, c_10, c_12, c_13]; done), ← hI]; simp [nn_up, mo_lp, mo_ll, c_1, c_1n, c_6, hczd, c_7, c_8, c_10, c_12, c_13]; done) | (rw [nn_fm, if_neg (by simp [mo_lp, mo_ll, c_1, c_1n, c_6, hczd, c_7, c_8, c_10, c_12, c_13]; done), ← hI])⟩
              · have hl : lv_has ls 7 [(5, .int (nI k)), (4, .int (nI j_11)), (0, .ref ob), (1, .int (nI zd)), (2, .int dv), (3, .int kd)] := hl
                have hj_11 : j_11 < k := nn_fm_lt hI.symm
                refine lv_if_lt (tgt := 111) hx hb d_Model_last_57 (by decide) (fun c_14 => absurd c_14 (nI_pos (by omega))) (fun c_14 => ?_)
                refine lv_aload_n hx hb d_Model_last_60 rfl (lv_at hl 2 rfl) ?_
                refine va_get (D := G.1) (ci := 7) (v := .ref (ad 3)) (C := R_Model) (T := F_Model) (N := 23) hx hb ht i_Model hown hK.1 hP 0 rfl rfl 5 (by decide) (ht _ m_510) (fun _ h9 => h9) rfl d_Model_last_61 ?_
                refine lv_iload hx hb d_Model_last_64 (lv_at hl 0 rfl) ?_
                refine sy_iald hx hb hK.1 hP 4 0 rfl rfl (k := k) (by omega) (by decide) d_Model_last_66 ?_
                refine lv_aload_n hx hb d_Model_last_67 rfl (lv_at hl 2 rfl) ?_
                refine va_get (D := G.1) (ci := 7) (v := .ref (ad 3)) (C := R_Model) (T := F_Model) (N := 23) hx hb ht i_Model hown hK.1 hP 0 rfl rfl 5 (by decide) (ht _ m_510) (fun _ h9 => h9) rfl d_Model_last_68 ?_
                refine lv_iload hx hb d_Model_last_71 (lv_at hl 1 rfl) ?_
                refine sy_iald hx hb hK.1 hP 4 0 rfl rfl (k := j_11) (by omega) (by decide) d_Model_last_73 ?_
                refine lv_icmp_gt (tgt := 111) hx hb d_Model_last_74 (by decide) (fun c_15 => ?_) (fun c_15 => ?_)
                · have c_15n := sy_a32 c_15
                  refine lv_iconst (v := 1) hx hb d_Model_last_111 (by decide) ?_
                  refine lv_goto (tgt := 116) hx hb d_Model_last_112 (by decide) ?_
                  refine lv_istore (lv' := [(6, .int 1), (5, .int (nI k)), (4, .int (nI j_11)), (0, .ref ob), (1, .int (nI zd)), (2, .int dv), (3, .int kd)]) hx hb d_Model_last_116 hl (by decide) rfl (fun ls hl => ?_)
                  refine lv_iload hx hb d_Model_last_118 (lv_at hl 0 rfl) ?_
                  refine lv_if_eq (tgt := 128) hx hb d_Model_last_120 (by decide) (fun c_16 => absurd c_16 (by decide)) (fun c_16 => ?_)
                  refine lv_iload hx hb d_Model_last_123 (lv_at hl 1 rfl) ?_
                  refine lv_goto (tgt := 130) hx hb d_Model_last_125 (by decide) ?_
                  refine lv_istore (lv' := [(4, .int (nI k)), (6, .int 1), (5, .int (nI k)), (0, .ref ob), (1, .int (nI zd)), (2, .int dv), (3, .int kd)]) hx hb d_Model_last_130 hl (by decide) rfl (fun ls hl => ?_)
                  refine lv_iinc (v := nI (k + 1)) (lv' := [(5, .int (nI (k + 1))), (4, .int (nI k)), (6, .int 1), (0, .ref ob), (1, .int (nI zd)), (2, .int dv), (3, .int kd)]) hx hb d_Model_last_132 hl (k := 2) rfl (nI_add k 1) (by decide) rfl (fun ls hl => ?_)
                  refine lv_goto (tgt := 6) hx hb d_Model_last_135 (by decide) ?_
                  refine ih6 (k + 1, (some k)) ls (show sc 1 - (k + 1) < sc 1 - k by omega) ?_ (lv_sub hl [0, 1, 3, 4, 5, 6] rfl)
                  exact ⟨by omega, by first | (rw [nn_fm, if_pos (by simp [mo_lp, mo_ll, c_1, c_1n, c_6, hczd, c_7, c_8, c_10, c_14, c_15, c_15n, c_16]; done), ← hI]; simp [nn_up, mo_lp, mo_ll, c_1, c_1n, c_6, hczd, c_7, c_8, c_10, c_14, c_15, c_15n, c_16]; done) | (rw [nn_fm, if_neg (by simp [mo_lp, mo_ll, c_1, c_1n, c_6, hczd, c_7, c_8, c_10, c_14, c_15, c_15n, c_16]; done), ← hI])⟩
                · have c_15n := sy_b32 c_15
                  refine lv_aload_n hx hb d_Model_last_77 rfl (lv_at hl 2 rfl) ?_
                  refine va_get (D := G.1) (ci := 7) (v := .ref (ad 3)) (C := R_Model) (T := F_Model) (N := 23) hx hb ht i_Model hown hK.1 hP 0 rfl rfl 5 (by decide) (ht _ m_510) (fun _ h9 => h9) rfl d_Model_last_78 ?_
                  refine lv_iload hx hb d_Model_last_81 (lv_at hl 0 rfl) ?_
                  refine sy_iald hx hb hK.1 hP 4 0 rfl rfl (k := k) (by omega) (by decide) d_Model_last_83 ?_
                  refine lv_aload_n hx hb d_Model_last_84 rfl (lv_at hl 2 rfl) ?_
                  refine va_get (D := G.1) (ci := 7) (v := .ref (ad 3)) (C := R_Model) (T := F_Model) (N := 23) hx hb ht i_Model hown hK.1 hP 0 rfl rfl 5 (by decide) (ht _ m_510) (fun _ h9 => h9) rfl d_Model_last_85 ?_
                  refine lv_iload hx hb d_Model_last_88 (lv_at hl 1 rfl) ?_
                  refine sy_iald hx hb hK.1 hP 4 0 rfl rfl (k := j_11) (by omega) (by decide) d_Model_last_90 ?_
                  refine lv_icmp_ne (tgt := 115) hx hb d_Model_last_91 (by decide) (fun c_17 => ?_) (fun c_17 => ?_)
                  · refine lv_iconst (v := 0) hx hb d_Model_last_115 (by decide) ?_
                    refine lv_istore (lv' := [(6, .int 0), (5, .int (nI k)), (4, .int (nI j_11)), (0, .ref ob), (1, .int (nI zd)), (2, .int dv), (3, .int kd)]) hx hb d_Model_last_116 hl (by decide) rfl (fun ls hl => ?_)
                    refine lv_iload hx hb d_Model_last_118 (lv_at hl 0 rfl) ?_
                    refine lv_if_eq (tgt := 128) hx hb d_Model_last_120 (by decide) (fun c_18 => ?_) (fun c_18 => absurd (by decide) c_18)
                    refine lv_iload hx hb d_Model_last_128 (lv_at hl 2 rfl) ?_
                    refine lv_istore (lv' := [(4, .int (nI j_11)), (6, .int 0), (5, .int (nI k)), (0, .ref ob), (1, .int (nI zd)), (2, .int dv), (3, .int kd)]) hx hb d_Model_last_130 hl (by decide) rfl (fun ls hl => ?_)
                    refine lv_iinc (v := nI (k + 1)) (lv' := [(5, .int (nI (k + 1))), (4, .int (nI j_11)), (6, .int 0), (0, .ref ob), (1, .int (nI zd)), (2, .int dv), (3, .int kd)]) hx hb d_Model_last_132 hl (k := 2) rfl (nI_add k 1) (by decide) rfl (fun ls hl => ?_)
                    refine lv_goto (tgt := 6) hx hb d_Model_last_135 (by decide) ?_
                    refine ih6 (k + 1, (some j_11)) ls (show sc 1 - (k + 1) < sc 1 - k by omega) ?_ (lv_sub hl [0, 1, 3, 4, 5, 6] rfl)
                    exact ⟨by omega, by first | (rw [nn_fm, if_pos (by simp [mo_lp, mo_ll, c_1, c_1n, c_6, hczd, c_7, c_8, c_10, c_14, c_15, c_15n, c_17, c_18]; done), ← hI]; simp [nn_up, mo_lp, mo_ll, c_1, c_1n, c_6, hczd, c_7, c_8, c_10, c_14, c_15, c_15n, c_17, c_18]; done) | (rw [nn_fm, if_neg (by simp [mo_lp, mo_ll, c_1, c_1n, c_6, hczd, c_7, c_8, c_10, c_14, c_15, c_15n, c_17, c_18]; done), ← hI])⟩
                  · refine lv_aload_n hx hb d_Model_last_94 rfl (lv_at hl 2 rfl) ?_
                    refine va_get (D := G.1) (ci := 7) (v := .ref (ad 4)) (C := R_Model) (T := F_Model) (N := 23) hx hb ht i_Model hown hK.1 hP 0 rfl rfl 6 (by decide) (ht _ m_511) (fun _ h9 => h9) rfl d_Model_last_95 ?_
                    refine lv_iload hx hb d_Model_last_98 (lv_at hl 0 rfl) ?_
                    refine sy_iald hx hb hK.1 hP 5 0 rfl rfl (k := k) (by omega) (by decide) d_Model_last_100 ?_
                    refine lv_aload_n hx hb d_Model_last_101 rfl (lv_at hl 2 rfl) ?_
                    refine va_get (D := G.1) (ci := 7) (v := .ref (ad 4)) (C := R_Model) (T := F_Model) (N := 23) hx hb ht i_Model hown hK.1 hP 0 rfl rfl 6 (by decide) (ht _ m_511) (fun _ h9 => h9) rfl d_Model_last_102 ?_
                    refine lv_iload hx hb d_Model_last_105 (lv_at hl 1 rfl) ?_
                    refine sy_iald hx hb hK.1 hP 5 0 rfl rfl (k := j_11) (by omega) (by decide) d_Model_last_107 ?_
                    refine lv_icmp_le (tgt := 115) hx hb d_Model_last_108 (by decide) (fun c_19 => ?_) (fun c_19 => ?_)
                    · have c_19n := sy_c32 c_19
                      refine lv_iconst (v := 0) hx hb d_Model_last_115 (by decide) ?_
                      refine lv_istore (lv' := [(6, .int 0), (5, .int (nI k)), (4, .int (nI j_11)), (0, .ref ob), (1, .int (nI zd)), (2, .int dv), (3, .int kd)]) hx hb d_Model_last_116 hl (by decide) rfl (fun ls hl => ?_)
                      refine lv_iload hx hb d_Model_last_118 (lv_at hl 0 rfl) ?_
                      refine lv_if_eq (tgt := 128) hx hb d_Model_last_120 (by decide) (fun c_20 => ?_) (fun c_20 => absurd (by decide) c_20)
                      refine lv_iload hx hb d_Model_last_128 (lv_at hl 2 rfl) ?_
                      refine lv_istore (lv' := [(4, .int (nI j_11)), (6, .int 0), (5, .int (nI k)), (0, .ref ob), (1, .int (nI zd)), (2, .int dv), (3, .int kd)]) hx hb d_Model_last_130 hl (by decide) rfl (fun ls hl => ?_)
                      refine lv_iinc (v := nI (k + 1)) (lv' := [(5, .int (nI (k + 1))), (4, .int (nI j_11)), (6, .int 0), (0, .ref ob), (1, .int (nI zd)), (2, .int dv), (3, .int kd)]) hx hb d_Model_last_132 hl (k := 2) rfl (nI_add k 1) (by decide) rfl (fun ls hl => ?_)
                      refine lv_goto (tgt := 6) hx hb d_Model_last_135 (by decide) ?_
                      refine ih6 (k + 1, (some j_11)) ls (show sc 1 - (k + 1) < sc 1 - k by omega) ?_ (lv_sub hl [0, 1, 3, 4, 5, 6] rfl)
                      exact ⟨by omega, by first | (rw [nn_fm, if_pos (by simp [mo_lp, mo_ll, c_1, c_1n, c_6, hczd, c_7, c_8, c_10, c_14, c_15, c_15n, c_17, c_19, c_19n, c_20]; done), ← hI]; simp [nn_up, mo_lp, mo_ll, c_1, c_1n, c_6, hczd, c_7, c_8, c_10, c_14, c_15, c_15n, c_17, c_19, c_19n, c_20]; done) | (rw [nn_fm, if_neg (by simp [mo_lp, mo_ll, c_1, c_1n, c_6, hczd, c_7, c_8, c_10, c_14, c_15, c_15n, c_17, c_19, c_19n, c_20]; done), ← hI])⟩
                    · have c_19n := sy_d32 c_19
                      refine lv_iconst (v := 1) hx hb d_Model_last_111 (by decide) ?_
                      refine lv_goto (tgt := 116) hx hb d_Model_last_112 (by decide) ?_
                      refine lv_istore (lv' := [(6, .int 1), (5, .int (nI k)), (4, .int (nI j_11)), (0, .ref ob), (1, .int (nI zd)), (2, .int dv), (3, .int kd)]) hx hb d_Model_last_116 hl (by decide) rfl (fun ls hl => ?_)
                      refine lv_iload hx hb d_Model_last_118 (lv_at hl 0 rfl) ?_
                      refine lv_if_eq (tgt := 128) hx hb d_Model_last_120 (by decide) (fun c_21 => absurd c_21 (by decide)) (fun c_21 => ?_)
                      refine lv_iload hx hb d_Model_last_123 (lv_at hl 1 rfl) ?_
                      refine lv_goto (tgt := 130) hx hb d_Model_last_125 (by decide) ?_
                      refine lv_istore (lv' := [(4, .int (nI k)), (6, .int 1), (5, .int (nI k)), (0, .ref ob), (1, .int (nI zd)), (2, .int dv), (3, .int kd)]) hx hb d_Model_last_130 hl (by decide) rfl (fun ls hl => ?_)
                      refine lv_iinc (v := nI (k + 1)) (lv' := [(5, .int (nI (k + 1))), (4, .int (nI k)), (6, .int 1), (0, .ref ob), (1, .int (nI zd)), (2, .int dv), (3, .int kd)]) hx hb d_Model_last_132 hl (k := 2) rfl (nI_add k 1) (by decide) rfl (fun ls hl => ?_)
                      refine lv_goto (tgt := 6) hx hb d_Model_last_135 (by decide) ?_
                      refine ih6 (k + 1, (some k)) ls (show sc 1 - (k + 1) < sc 1 - k by omega) ?_ (lv_sub hl [0, 1, 3, 4, 5, 6] rfl)
                      exact ⟨by omega, by first | (rw [nn_fm, if_pos (by simp [mo_lp, mo_ll, c_1, c_1n, c_6, hczd, c_7, c_8, c_10, c_14, c_15, c_15n, c_17, c_19, c_19n, c_21]; done), ← hI]; simp [nn_up, mo_lp, mo_ll, c_1, c_1n, c_6, hczd, c_7, c_8, c_10, c_14, c_15, c_15n, c_17, c_19, c_19n, c_21]; done) | (rw [nn_fm, if_neg (by simp [mo_lp, mo_ll, c_1, c_1n, c_6, hczd, c_7, c_8, c_10, c_14, c_15, c_15n, c_17, c_19, c_19n, c_21]; done), ← hI])⟩
  · exact ⟨Nat.zero_le _, rfl⟩
set_option maxHeartbeats 4000000 in
set_option maxRecDepth 100000 in
theorem c_Model_equal (l : Launch) (G : sy_G) (ob : Nat) (ad : Nat → Nat) (sc : Nat → Nat) (mI : Nat → Nat → Int32) (mL : Nat → Nat → Int64) (mZ : Nat → Nat → Bool) (d : Int32) (dv : Int32) (hs : sc 3 ≤ 6) : Met l y_Model_equal (sy_w y_Model_equal b_Model_equal 7 (some .boolean)) { frames := 1, cells := 0, slots := 0, locals := 21 } (va_Pc [.ref ob, .int d, .int dv] (sy_KP G (va_P G.1 classes (mw G.2 ob ad sc mI mL mZ)))) (vp_Si (fun r => r = bI (mo_equal sc mL mZ d dv))) 0 0 (fun _ => False) := by
  refine Met.ofW (cc := b_Model_equal) (maxL := 7) (ret := (some .boolean)) (by decide) rfl ?_
  intro p e s m args below meth c s₁ B hml hv
  obtain ⟨rfl, hP, hK⟩ := hv
  have hx := B.exec
  have hb := B.bytes
  have hr := B.returns
  have hts := atoms_spec (ws := sy_w y_Model_equal b_Model_equal 7 (some .boolean)) B.pre
  have ht : ∀ wd ∈ sy_T, wd.before ([.ref ob, .int d, .int dv] : List Value).toArray s = true := fun wd h => hts wd (List.mem_cons_of_mem _ h)
  have hown : s.vm.findClass R_Model = some m.cls := findClass_of_methodNamed B.named
  have hlocks := B.notSynchronized
  have hl := lv_entry ([.ref ob, .int d, .int dv]) (n := 7) (Nat.le_of_ble_eq_true rfl)
  rw [lg_entry_eq]
  generalize (lg_sl ([.ref ob, .int d, .int dv]) ++ List.replicate (7 - (lg_sl ([.ref ob, .int d, .int dv])).length) Slot.unset).toArray = ls at hl ⊢
  have hl : lv_has ls 7 [(0, .ref ob), (1, .int d), (2, .int dv)] := hl
  refine lv_aload_n hx hb d_Model_equal_0 rfl (lv_at hl 0 rfl) ?_
  refine lv_iload_n hx hb d_Model_equal_1 rfl (lv_at hl 1 rfl) ?_
  refine vp_callSi (va_Run.run (sy_runV (As := [.int d]) (rest := []) (b := ob) ⟨hx, hb, hml, hown, ht⟩ cl_Model_96 (c_Model_isSet l G ob ad sc mI mL mZ d (by omega)) hK hP (va_recv hK.1 hP (ci := 7) (q0 := 0) rfl rfl) rfl nm_Model_isSet rfl rfl ⟨Nat.le_of_ble_eq_true rfl, Nat.le_of_ble_eq_true rfl⟩ hl.1 (Nat.le_of_ble_eq_true rfl) d_Model_equal_2 ⟨Nat.zero_le _, Nat.zero_le _⟩)) (fun r_1 hr_1 => ?_)
  subst hr_1
  refine lv_if_eq (tgt := 16) hx hb d_Model_equal_5 (by decide) (fun c_2 => ?_) (fun c_2 => ?_)
  · have c_2 : (mo_ok (sc 3) d) = false := bI_f c_2
    refine lv_iconst (v := 0) hx hb d_Model_equal_16 (by decide) ?_
    exact W.zret (v := (0 : Int32)) hx hb hr (rfl) (fun t ht hW => ⟨(0 : Int32), rfl, by first | (simp [bI, mo_equal, c_2]; done) | (rw [hI2, show q = 20 by omega]; simp [mo_equal, c_2]; done), ht⟩) (fun q h => by cases h) d_Model_equal_17
  · have c_2 : (mo_ok (sc 3) d) = true := bI_t c_2
    obtain ⟨zd, hzd, ezd⟩ := mo_ix (by omega) c_2
    subst ezd
    have hczd : (nI zd).toNatClampNeg = zd := nI_clamp (by omega)
    refine lv_aload_n hx hb d_Model_equal_8 rfl (lv_at hl 0 rfl) ?_
    refine lv_iload_n hx hb d_Model_equal_9 rfl (lv_at hl 2 rfl) ?_
    refine vp_callSi (va_Run.run (sy_runV (As := [.int dv]) (rest := []) (b := ob) ⟨hx, hb, hml, hown, ht⟩ cl_Model_96 (c_Model_isSet l G ob ad sc mI mL mZ dv (by omega)) hK hP (va_recv hK.1 hP (ci := 7) (q0 := 0) rfl rfl) rfl nm_Model_isSet rfl rfl ⟨Nat.le_of_ble_eq_true rfl, Nat.le_of_ble_eq_true rfl⟩ hl.1 (Nat.le_of_ble_eq_true rfl) d_Model_equal_10 ⟨Nat.zero_le _, Nat.zero_le _⟩)) (fun r_3 hr_3 => ?_)
    subst hr_3
    refine lv_if_ne (tgt := 18) hx hb d_Model_equal_13 (by decide) (fun c_4 => ?_) (fun c_4 => ?_)
    · have c_4 : (mo_ok (sc 3) dv) = true := bI_t c_4
      obtain ⟨zdv, hzdv, ezdv⟩ := mo_ix (by omega) c_4
      subst ezdv
      have hczdv : (nI zdv).toNatClampNeg = zdv := nI_clamp (by omega)
      refine lv_aload_n hx hb d_Model_equal_18 rfl (lv_at hl 0 rfl) ?_
      refine va_get (D := G.1) (ci := 7) (v := .ref (ad 13)) (C := R_Model) (T := F_Model) (N := 23) hx hb ht i_Model hown hK.1 hP 0 rfl rfl 18 (by decide) (ht _ m_523) (fun _ h9 => h9) rfl d_Model_equal_19 ?_
      refine lv_iload_n hx hb d_Model_equal_22 rfl (lv_at hl 1 rfl) ?_
      refine sy_lald hx hb hK.1 hP 14 1 rfl rfl (k := zd) (by omega) (by decide) d_Model_equal_23 ?_
      refine lv_aload_n hx hb d_Model_equal_24 rfl (lv_at hl 0 rfl) ?_
      refine va_get (D := G.1) (ci := 7) (v := .ref (ad 13)) (C := R_Model) (T := F_Model) (N := 23) hx hb ht i_Model hown hK.1 hP 0 rfl rfl 18 (by decide) (ht _ m_523) (fun _ h9 => h9) rfl d_Model_equal_25 ?_
      refine lv_iload_n hx hb d_Model_equal_28 rfl (lv_at hl 2 rfl) ?_
      refine sy_lald hx hb hK.1 hP 14 1 rfl rfl (k := zdv) (by omega) (by decide) d_Model_equal_29 ?_
      refine sy_lc_ne (tgt := 38) hx hb d_Model_equal_30 d_Model_equal_31 (by decide) (fun c_5 => ?_) (fun c_5 => ?_)
      · refine lv_iconst (v := 0) hx hb d_Model_equal_38 (by decide) ?_
        refine lv_istore_n (lv' := [(3, .int 0), (0, .ref ob), (1, .int (nI zd)), (2, .int (nI zdv))]) hx hb d_Model_equal_39 rfl hl (by decide) rfl (fun ls hl => ?_)
        refine lv_iconst (v := 0) hx hb d_Model_equal_40 (by decide) ?_
        refine lv_istore (lv' := [(4, .int 0), (3, .int 0), (0, .ref ob), (1, .int (nI zd)), (2, .int (nI zdv))]) hx hb d_Model_equal_41 hl (by decide) rfl (fun ls hl => ?_)
        refine sy_loop (σ := Nat × Bool) (nL := 7) (fun x43 => match x43 with | (k, b) => 60 - k) (fun x43 => match x43 with | (k, b) => [(4, .int (nI k)), (3, .int (bI b)), (0, .ref ob), (1, .int (nI zd)), (2, .int (nI zdv))]) (fun x43 => match x43 with | (k, b) => k ≤ 60 ∧ b = eq_1 mL mZ zd zdv k) ?_ (0, false) ?_ (lv_sub hl [0, 1, 2, 3, 4] rfl)
        · intro x43 ls hI hl ih43
          obtain ⟨k, b⟩ := x43
          have hl : lv_has ls 7 [(4, .int (nI k)), (3, .int (bI b)), (0, .ref ob), (1, .int (nI zd)), (2, .int (nI zdv))] := hl
          obtain ⟨hk, hI⟩ := hI
          refine lv_iload hx hb d_Model_equal_43 (lv_at hl 0 rfl) ?_
          refine lv_bipush (v := 60) hx hb d_Model_equal_45 (by decide) ?_
          refine lv_icmp_ge (tgt := 118) hx hb d_Model_equal_47 (by decide) (fun c_6 => ?_) (fun c_6 => ?_)
          · have c_6 : 60 ≤ k := (nI_leI (a := 60) (b := k) (by omega) (by omega)).mp c_6
            have c_6n : ¬ k < 60 := by omega
            refine lv_iconst (v := 0) hx hb d_Model_equal_118 (by decide) ?_
            refine lv_istore (lv' := [(4, .int 0), (3, .int (bI b)), (0, .ref ob), (1, .int (nI zd)), (2, .int (nI zdv))]) hx hb d_Model_equal_119 hl (by decide) rfl (fun ls hl => ?_)
            refine sy_loop (σ := Nat × Bool) (nL := 7) (fun x121 => match x121 with | (q, b2) => 20 - q) (fun x121 => match x121 with | (q, b2) => [(4, .int (nI q)), (3, .int (bI b2)), (0, .ref ob), (1, .int (nI zd)), (2, .int (nI zdv))]) (fun x121 => match x121 with | (q, b2) => q ≤ 20 ∧ b2 = eq_2 mL mZ zd zdv q) ?_ (0, b) ?_ (lv_sub hl [0, 1, 2, 3, 4] rfl)
            · intro x121 ls hI hl ih121
              obtain ⟨q, b2⟩ := x121
              have hl : lv_has ls 7 [(4, .int (nI q)), (3, .int (bI b2)), (0, .ref ob), (1, .int (nI zd)), (2, .int (nI zdv))] := hl
              obtain ⟨hq, hI2⟩ := hI
              refine lv_iload hx hb d_Model_equal_121 (lv_at hl 0 rfl) ?_
              refine lv_bipush (v := 20) hx hb d_Model_equal_123 (by decide) ?_
              refine lv_icmp_ge (tgt := 171) hx hb d_Model_equal_125 (by decide) (fun c_7 => ?_) (fun c_7 => ?_)
              · have c_7 : 20 ≤ q := (nI_leI (a := 20) (b := q) (by omega) (by omega)).mp c_7
                have c_7n : ¬ q < 20 := by omega
                refine lv_iload_n hx hb d_Model_equal_171 rfl (lv_at hl 1 rfl) ?_
                exact W.zret (v := bI b2) hx hb hr (bI_n _) (fun t ht hW => ⟨bI b2, rfl, by first | (simp [bI, mo_equal, c_2, hczd, c_4, hczdv, c_5, c_6, c_6n, c_7, c_7n]; done) | (rw [hI2, show q = 20 by omega]; simp [mo_equal, c_2, hczd, c_4, hczdv, c_5, c_6, c_6n, c_7, c_7n]; done), ht⟩) (fun q h => by cases h) d_Model_equal_172
              · have c_7 : ¬ 20 ≤ q := fun h9 => c_7 ((nI_leI (a := 20) (b := q) (by omega) (by omega)).mpr h9)
                have c_7n : q < 20 := by omega
                refine lv_iload_n hx hb d_Model_equal_128 rfl (lv_at hl 1 rfl) ?_
                refine lv_if_eq (tgt := 163) hx hb d_Model_equal_129 (by decide) (fun c_8 => ?_) (fun c_8 => ?_)
                · have c_8 : b2 = false := bI_f c_8
                  refine lv_iconst (v := 0) hx hb d_Model_equal_163 (by decide) ?_
                  refine lv_istore_n (lv' := [(3, .int 0), (4, .int (nI q)), (0, .ref ob), (1, .int (nI zd)), (2, .int (nI zdv))]) hx hb d_Model_equal_164 rfl hl (by decide) rfl (fun ls hl => ?_)
                  refine lv_iinc (v := nI (q + 1)) (lv' := [(4, .int (nI (q + 1))), (3, .int 0), (0, .ref ob), (1, .int (nI zd)), (2, .int (nI zdv))]) hx hb d_Model_equal_165 hl (k := 1) rfl (nI_add q 1) (by decide) rfl (fun ls hl => ?_)
                  refine lv_goto (tgt := 121) hx hb d_Model_equal_168 (by decide) ?_
                  refine ih121 (q + 1, false) ls (show 20 - (q + 1) < 20 - q by omega) ?_ (lv_sub hl [0, 1, 2, 3, 4] rfl)
                  exact ⟨by omega, by rw [eq_2, ← hI2]; simp [c_7, c_7n, c_8]⟩
                · have c_8 : b2 = true := bI_t c_8
                  refine lv_aload_n hx hb d_Model_equal_132 rfl (lv_at hl 2 rfl) ?_
                  refine va_get (D := G.1) (ci := 7) (v := .ref (ad 12)) (C := R_Model) (T := F_Model) (N := 23) hx hb ht i_Model hown hK.1 hP 0 rfl rfl 17 (by decide) (ht _ m_522) (fun _ h9 => h9) rfl d_Model_equal_133 ?_
                  refine lv_bipush (v := 20) hx hb d_Model_equal_136 (by decide) ?_
                  refine lv_iload_n hx hb d_Model_equal_138 rfl (lv_at hl 3 rfl) ?_
                  refine lv_imul hx hb d_Model_equal_139 ?_
                  refine sy_ti (y := nI (20 * zd)) (pk_mul 20 zd) ?_
                  refine lv_iload hx hb d_Model_equal_140 (lv_at hl 0 rfl) ?_
                  refine lv_iadd hx hb d_Model_equal_142 ?_
                  refine sy_ti (y := nI ((20 * zd) + q)) (nI_add (20 * zd) q) ?_
                  refine sy_zald hx hb hK.1 hP 13 2 rfl rfl (k := (20 * zd) + q) (by omega) (by decide) d_Model_equal_143 ?_
                  refine lv_aload_n hx hb d_Model_equal_144 rfl (lv_at hl 2 rfl) ?_
                  refine va_get (D := G.1) (ci := 7) (v := .ref (ad 12)) (C := R_Model) (T := F_Model) (N := 23) hx hb ht i_Model hown hK.1 hP 0 rfl rfl 17 (by decide) (ht _ m_522) (fun _ h9 => h9) rfl d_Model_equal_145 ?_
                  refine lv_bipush (v := 20) hx hb d_Model_equal_148 (by decide) ?_
                  refine lv_iload_n hx hb d_Model_equal_150 rfl (lv_at hl 4 rfl) ?_
                  refine lv_imul hx hb d_Model_equal_151 ?_
                  refine sy_ti (y := nI (20 * zdv)) (pk_mul 20 zdv) ?_
                  refine lv_iload hx hb d_Model_equal_152 (lv_at hl 0 rfl) ?_
                  refine lv_iadd hx hb d_Model_equal_154 ?_
                  refine sy_ti (y := nI ((20 * zdv) + q)) (nI_add (20 * zdv) q) ?_
                  refine sy_zald hx hb hK.1 hP 13 2 rfl rfl (k := (20 * zdv) + q) (by omega) (by decide) d_Model_equal_155 ?_
                  refine lv_icmp_ne (tgt := 163) hx hb d_Model_equal_156 (by decide) (fun c_9 => ?_) (fun c_9 => ?_)
                  · have c_9 : ¬ (mZ 12 ((20 * zd) + q)) = (mZ 12 ((20 * zdv) + q)) := fun h9 => c_9 (by rw [h9])
                    refine lv_iconst (v := 0) hx hb d_Model_equal_163 (by decide) ?_
                    refine lv_istore_n (lv' := [(3, .int 0), (4, .int (nI q)), (0, .ref ob), (1, .int (nI zd)), (2, .int (nI zdv))]) hx hb d_Model_equal_164 rfl hl (by decide) rfl (fun ls hl => ?_)
                    refine lv_iinc (v := nI (q + 1)) (lv' := [(4, .int (nI (q + 1))), (3, .int 0), (0, .ref ob), (1, .int (nI zd)), (2, .int (nI zdv))]) hx hb d_Model_equal_165 hl (k := 1) rfl (nI_add q 1) (by decide) rfl (fun ls hl => ?_)
                    refine lv_goto (tgt := 121) hx hb d_Model_equal_168 (by decide) ?_
                    refine ih121 (q + 1, false) ls (show 20 - (q + 1) < 20 - q by omega) ?_ (lv_sub hl [0, 1, 2, 3, 4] rfl)
                    exact ⟨by omega, by rw [eq_2, ← hI2]; simp [c_7, c_7n, c_8, c_9]⟩
                  · have c_9 := bI_i c_9
                    refine lv_iconst (v := 1) hx hb d_Model_equal_159 (by decide) ?_
                    refine lv_goto (tgt := 164) hx hb d_Model_equal_160 (by decide) ?_
                    refine lv_istore_n (lv' := [(3, .int 1), (4, .int (nI q)), (0, .ref ob), (1, .int (nI zd)), (2, .int (nI zdv))]) hx hb d_Model_equal_164 rfl hl (by decide) rfl (fun ls hl => ?_)
                    refine lv_iinc (v := nI (q + 1)) (lv' := [(4, .int (nI (q + 1))), (3, .int 1), (0, .ref ob), (1, .int (nI zd)), (2, .int (nI zdv))]) hx hb d_Model_equal_165 hl (k := 1) rfl (nI_add q 1) (by decide) rfl (fun ls hl => ?_)
                    refine lv_goto (tgt := 121) hx hb d_Model_equal_168 (by decide) ?_
                    refine ih121 (q + 1, true) ls (show 20 - (q + 1) < 20 - q by omega) ?_ (lv_sub hl [0, 1, 2, 3, 4] rfl)
                    exact ⟨by omega, by rw [eq_2, ← hI2]; simp [c_7, c_7n, c_8, c_9]⟩
            · exact ⟨Nat.zero_le _, by rw [hI, show k = 60 by omega]; rfl⟩
          · have c_6 : ¬ 60 ≤ k := fun h9 => c_6 ((nI_leI (a := 60) (b := k) (by omega) (by omega)).mpr h9)
            have c_6n : k < 60 := by omega
            refine lv_bipush (v := 60) hx hb d_Model_equal_50 (by decide) ?_
            refine lv_iload_n hx hb d_Model_equal_52 rfl (lv_at hl 3 rfl) ?_
            refine lv_imul hx hb d_Model_equal_53 ?_
            refine sy_ti (y := nI (60 * zd)) (pk_mul 60 zd) ?_
            refine lv_iload hx hb d_Model_equal_54 (lv_at hl 0 rfl) ?_
            refine lv_iadd hx hb d_Model_equal_56 ?_
            refine sy_ti (y := nI ((60 * zd) + k)) (nI_add (60 * zd) k) ?_
            refine lv_istore (lv' := [(5, .int (nI ((60 * zd) + k))), (4, .int (nI k)), (3, .int (bI b)), (0, .ref ob), (1, .int (nI zd)), (2, .int (nI zdv))]) hx hb d_Model_equal_57 hl (by decide) rfl (fun ls hl => ?_)
            refine lv_bipush (v := 60) hx hb d_Model_equal_59 (by decide) ?_
            refine lv_iload_n hx hb d_Model_equal_61 rfl (lv_at hl 5 rfl) ?_
            refine lv_imul hx hb d_Model_equal_62 ?_
            refine sy_ti (y := nI (60 * zdv)) (pk_mul 60 zdv) ?_
            refine lv_iload hx hb d_Model_equal_63 (lv_at hl 1 rfl) ?_
            refine lv_iadd hx hb d_Model_equal_65 ?_
            refine sy_ti (y := nI ((60 * zdv) + k)) (nI_add (60 * zdv) k) ?_
            refine lv_istore (lv' := [(6, .int (nI ((60 * zdv) + k))), (5, .int (nI ((60 * zd) + k))), (4, .int (nI k)), (3, .int (bI b)), (0, .ref ob), (1, .int (nI zd)), (2, .int (nI zdv))]) hx hb d_Model_equal_66 hl (by decide) rfl (fun ls hl => ?_)
            refine lv_iload_n hx hb d_Model_equal_68 rfl (lv_at hl 3 rfl) ?_
            refine lv_if_eq (tgt := 110) hx hb d_Model_equal_69 (by decide) (fun c_10 => ?_) (fun c_10 => ?_)
            · have c_10 : b = false := bI_f c_10
              refine lv_iconst (v := 0) hx hb d_Model_equal_110 (by decide) ?_
              refine lv_istore_n (lv' := [(3, .int 0), (6, .int (nI ((60 * zdv) + k))), (5, .int (nI ((60 * zd) + k))), (4, .int (nI k)), (0, .ref ob), (1, .int (nI zd)), (2, .int (nI zdv))]) hx hb d_Model_equal_111 rfl hl (by decide) rfl (fun ls hl => ?_)
              refine lv_iinc (v := nI (k + 1)) (lv' := [(4, .int (nI (k + 1))), (3, .int 0), (6, .int (nI ((60 * zdv) + k))), (5, .int (nI ((60 * zd) + k))), (0, .ref ob), (1, .int (nI zd)), (2, .int (nI zdv))]) hx hb d_Model_equal_112 hl (k := 3) rfl (nI_add k 1) (by decide) rfl (fun ls hl => ?_)
              refine lv_goto (tgt := 43) hx hb d_Model_equal_115 (by decide) ?_
              refine ih43 (k + 1, false) ls (show 60 - (k + 1) < 60 - k by omega) ?_ (lv_sub hl [0, 1, 4, 5, 6] rfl)
              exact ⟨by omega, by rw [eq_1, ← hI]; simp [c_6, c_6n, c_10]⟩
            · have c_10 : b = true := bI_t c_10
              refine lv_aload_n hx hb d_Model_equal_72 rfl (lv_at hl 4 rfl) ?_
              refine va_get (D := G.1) (ci := 7) (v := .ref (ad 10)) (C := R_Model) (T := F_Model) (N := 23) hx hb ht i_Model hown hK.1 hP 0 rfl rfl 15 (by decide) (ht _ m_520) (fun _ h9 => h9) rfl d_Model_equal_73 ?_
              refine lv_iload hx hb d_Model_equal_76 (lv_at hl 1 rfl) ?_
              refine sy_zald hx hb hK.1 hP 11 2 rfl rfl (k := (60 * zd) + k) (by omega) (by decide) d_Model_equal_78 ?_
              refine lv_aload_n hx hb d_Model_equal_79 rfl (lv_at hl 4 rfl) ?_
              refine va_get (D := G.1) (ci := 7) (v := .ref (ad 10)) (C := R_Model) (T := F_Model) (N := 23) hx hb ht i_Model hown hK.1 hP 0 rfl rfl 15 (by decide) (ht _ m_520) (fun _ h9 => h9) rfl d_Model_equal_80 ?_
              refine lv_iload hx hb d_Model_equal_83 (lv_at hl 0 rfl) ?_
              refine sy_zald hx hb hK.1 hP 11 2 rfl rfl (k := (60 * zdv) + k) (by omega) (by decide) d_Model_equal_85 ?_
              refine lv_icmp_ne (tgt := 110) hx hb d_Model_equal_86 (by decide) (fun c_11 => ?_) (fun c_11 => ?_)
              · have c_11 : ¬ (mZ 10 ((60 * zd) + k)) = (mZ 10 ((60 * zdv) + k)) := fun h9 => c_11 (by rw [h9])
                refine lv_iconst (v := 0) hx hb d_Model_equal_110 (by decide) ?_
                refine lv_istore_n (lv' := [(3, .int 0), (6, .int (nI ((60 * zdv) + k))), (5, .int (nI ((60 * zd) + k))), (4, .int (nI k)), (0, .ref ob), (1, .int (nI zd)), (2, .int (nI zdv))]) hx hb d_Model_equal_111 rfl hl (by decide) rfl (fun ls hl => ?_)
                refine lv_iinc (v := nI (k + 1)) (lv' := [(4, .int (nI (k + 1))), (3, .int 0), (6, .int (nI ((60 * zdv) + k))), (5, .int (nI ((60 * zd) + k))), (0, .ref ob), (1, .int (nI zd)), (2, .int (nI zdv))]) hx hb d_Model_equal_112 hl (k := 3) rfl (nI_add k 1) (by decide) rfl (fun ls hl => ?_)
                refine lv_goto (tgt := 43) hx hb d_Model_equal_115 (by decide) ?_
                refine ih43 (k + 1, false) ls (show 60 - (k + 1) < 60 - k by omega) ?_ (lv_sub hl [0, 1, 4, 5, 6] rfl)
                exact ⟨by omega, by rw [eq_1, ← hI]; simp [c_6, c_6n, c_10, c_11]⟩
              · have c_11 := bI_i c_11
                refine lv_aload_n hx hb d_Model_equal_89 rfl (lv_at hl 4 rfl) ?_
                refine va_get (D := G.1) (ci := 7) (v := .ref (ad 11)) (C := R_Model) (T := F_Model) (N := 23) hx hb ht i_Model hown hK.1 hP 0 rfl rfl 16 (by decide) (ht _ m_521) (fun _ h9 => h9) rfl d_Model_equal_90 ?_
                refine lv_iload hx hb d_Model_equal_93 (lv_at hl 1 rfl) ?_
                refine sy_zald hx hb hK.1 hP 12 2 rfl rfl (k := (60 * zd) + k) (by omega) (by decide) d_Model_equal_95 ?_
                refine lv_aload_n hx hb d_Model_equal_96 rfl (lv_at hl 4 rfl) ?_
                refine va_get (D := G.1) (ci := 7) (v := .ref (ad 11)) (C := R_Model) (T := F_Model) (N := 23) hx hb ht i_Model hown hK.1 hP 0 rfl rfl 16 (by decide) (ht _ m_521) (fun _ h9 => h9) rfl d_Model_equal_97 ?_
                refine lv_iload hx hb d_Model_equal_100 (lv_at hl 0 rfl) ?_
                refine sy_zald hx hb hK.1 hP 12 2 rfl rfl (k := (60 * zdv) + k) (by omega) (by decide) d_Model_equal_102 ?_
                refine lv_icmp_ne (tgt := 110) hx hb d_Model_equal_103 (by decide) (fun c_12 => ?_) (fun c_12 => ?_)
                · have c_12 : ¬ (mZ 11 ((60 * zd) + k)) = (mZ 11 ((60 * zdv) + k)) := fun h9 => c_12 (by rw [h9])
                  refine lv_iconst (v := 0) hx hb d_Model_equal_110 (by decide) ?_
                  refine lv_istore_n (lv' := [(3, .int 0), (6, .int (nI ((60 * zdv) + k))), (5, .int (nI ((60 * zd) + k))), (4, .int (nI k)), (0, .ref ob), (1, .int (nI zd)), (2, .int (nI zdv))]) hx hb d_Model_equal_111 rfl hl (by decide) rfl (fun ls hl => ?_)
                  refine lv_iinc (v := nI (k + 1)) (lv' := [(4, .int (nI (k + 1))), (3, .int 0), (6, .int (nI ((60 * zdv) + k))), (5, .int (nI ((60 * zd) + k))), (0, .ref ob), (1, .int (nI zd)), (2, .int (nI zdv))]) hx hb d_Model_equal_112 hl (k := 3) rfl (nI_add k 1) (by decide) rfl (fun ls hl => ?_)
                  refine lv_goto (tgt := 43) hx hb d_Model_equal_115 (by decide) ?_
                  refine ih43 (k + 1, false) ls (show 60 - (k + 1) < 60 - k by omega) ?_ (lv_sub hl [0, 1, 4, 5, 6] rfl)
                  exact ⟨by omega, by rw [eq_1, ← hI]; simp [c_6, c_6n, c_10, c_11, c_12]⟩
                · have c_12 := bI_i c_12
                  refine lv_iconst (v := 1) hx hb d_Model_equal_106 (by decide) ?_
                  refine lv_goto (tgt := 111) hx hb d_Model_equal_107 (by decide) ?_
                  refine lv_istore_n (lv' := [(3, .int 1), (6, .int (nI ((60 * zdv) + k))), (5, .int (nI ((60 * zd) + k))), (4, .int (nI k)), (0, .ref ob), (1, .int (nI zd)), (2, .int (nI zdv))]) hx hb d_Model_equal_111 rfl hl (by decide) rfl (fun ls hl => ?_)
                  refine lv_iinc (v := nI (k + 1)) (lv' := [(4, .int (nI (k + 1))), (3, .int 1), (6, .int (nI ((60 * zdv) + k))), (5, .int (nI ((60 * zd) + k))), (0, .ref ob), (1, .int (nI zd)), (2, .int (nI zdv))]) hx hb d_Model_equal_112 hl (k := 3) rfl (nI_add k 1) (by decide) rfl (fun ls hl => ?_)
                  refine lv_goto (tgt := 43) hx hb d_Model_equal_115 (by decide) ?_
                  refine ih43 (k + 1, true) ls (show 60 - (k + 1) < 60 - k by omega) ?_ (lv_sub hl [0, 1, 4, 5, 6] rfl)
                  exact ⟨by omega, by rw [eq_1, ← hI]; simp [c_6, c_6n, c_10, c_11, c_12]⟩
        · exact ⟨Nat.zero_le _, by simp [eq_1, c_2, hczd, c_4, hczdv, c_5]⟩
      · refine lv_iconst (v := 1) hx hb d_Model_equal_34 (by decide) ?_
        refine lv_goto (tgt := 39) hx hb d_Model_equal_35 (by decide) ?_
        refine lv_istore_n (lv' := [(3, .int 1), (0, .ref ob), (1, .int (nI zd)), (2, .int (nI zdv))]) hx hb d_Model_equal_39 rfl hl (by decide) rfl (fun ls hl => ?_)
        refine lv_iconst (v := 0) hx hb d_Model_equal_40 (by decide) ?_
        refine lv_istore (lv' := [(4, .int 0), (3, .int 1), (0, .ref ob), (1, .int (nI zd)), (2, .int (nI zdv))]) hx hb d_Model_equal_41 hl (by decide) rfl (fun ls hl => ?_)
        refine sy_loop (σ := Nat × Bool) (nL := 7) (fun x43 => match x43 with | (k, b) => 60 - k) (fun x43 => match x43 with | (k, b) => [(4, .int (nI k)), (3, .int (bI b)), (0, .ref ob), (1, .int (nI zd)), (2, .int (nI zdv))]) (fun x43 => match x43 with | (k, b) => k ≤ 60 ∧ b = eq_1 mL mZ zd zdv k) ?_ (0, true) ?_ (lv_sub hl [0, 1, 2, 3, 4] rfl)
        · intro x43 ls hI hl ih43
          obtain ⟨k, b⟩ := x43
          have hl : lv_has ls 7 [(4, .int (nI k)), (3, .int (bI b)), (0, .ref ob), (1, .int (nI zd)), (2, .int (nI zdv))] := hl
          obtain ⟨hk, hI⟩ := hI
          refine lv_iload hx hb d_Model_equal_43 (lv_at hl 0 rfl) ?_
          refine lv_bipush (v := 60) hx hb d_Model_equal_45 (by decide) ?_
          refine lv_icmp_ge (tgt := 118) hx hb d_Model_equal_47 (by decide) (fun c_13 => ?_) (fun c_13 => ?_)
          · have c_13 : 60 ≤ k := (nI_leI (a := 60) (b := k) (by omega) (by omega)).mp c_13
            have c_13n : ¬ k < 60 := by omega
            refine lv_iconst (v := 0) hx hb d_Model_equal_118 (by decide) ?_
            refine lv_istore (lv' := [(4, .int 0), (3, .int (bI b)), (0, .ref ob), (1, .int (nI zd)), (2, .int (nI zdv))]) hx hb d_Model_equal_119 hl (by decide) rfl (fun ls hl => ?_)
            refine sy_loop (σ := Nat × Bool) (nL := 7) (fun x121 => match x121 with | (q, b2) => 20 - q) (fun x121 => match x121 with | (q, b2) => [(4, .int (nI q)), (3, .int (bI b2)), (0, .ref ob), (1, .int (nI zd)), (2, .int (nI zdv))]) (fun x121 => match x121 with | (q, b2) => q ≤ 20 ∧ b2 = eq_2 mL mZ zd zdv q) ?_ (0, b) ?_ (lv_sub hl [0, 1, 2, 3, 4] rfl)
            · intro x121 ls hI hl ih121
              obtain ⟨q, b2⟩ := x121
              have hl : lv_has ls 7 [(4, .int (nI q)), (3, .int (bI b2)), (0, .ref ob), (1, .int (nI zd)), (2, .int (nI zdv))] := hl
              obtain ⟨hq, hI2⟩ := hI
              refine lv_iload hx hb d_Model_equal_121 (lv_at hl 0 rfl) ?_
              refine lv_bipush (v := 20) hx hb d_Model_equal_123 (by decide) ?_
              refine lv_icmp_ge (tgt := 171) hx hb d_Model_equal_125 (by decide) (fun c_14 => ?_) (fun c_14 => ?_)
              · have c_14 : 20 ≤ q := (nI_leI (a := 20) (b := q) (by omega) (by omega)).mp c_14
                have c_14n : ¬ q < 20 := by omega
                refine lv_iload_n hx hb d_Model_equal_171 rfl (lv_at hl 1 rfl) ?_
                exact W.zret (v := bI b2) hx hb hr (bI_n _) (fun t ht hW => ⟨bI b2, rfl, by first | (simp [bI, mo_equal, c_2, hczd, c_4, hczdv, c_5, c_13, c_13n, c_14, c_14n]; done) | (rw [hI2, show q = 20 by omega]; simp [mo_equal, c_2, hczd, c_4, hczdv, c_5, c_13, c_13n, c_14, c_14n]; done), ht⟩) (fun q h => by cases h) d_Model_equal_172
              · have c_14 : ¬ 20 ≤ q := fun h9 => c_14 ((nI_leI (a := 20) (b := q) (by omega) (by omega)).mpr h9)
                have c_14n : q < 20 := by omega
                refine lv_iload_n hx hb d_Model_equal_128 rfl (lv_at hl 1 rfl) ?_
                refine lv_if_eq (tgt := 163) hx hb d_Model_equal_129 (by decide) (fun c_15 => ?_) (fun c_15 => ?_)
                · have c_15 : b2 = false := bI_f c_15
                  refine lv_iconst (v := 0) hx hb d_Model_equal_163 (by decide) ?_
                  refine lv_istore_n (lv' := [(3, .int 0), (4, .int (nI q)), (0, .ref ob), (1, .int (nI zd)), (2, .int (nI zdv))]) hx hb d_Model_equal_164 rfl hl (by decide) rfl (fun ls hl => ?_)
                  refine lv_iinc (v := nI (q + 1)) (lv' := [(4, .int (nI (q + 1))), (3, .int 0), (0, .ref ob), (1, .int (nI zd)), (2, .int (nI zdv))]) hx hb d_Model_equal_165 hl (k := 1) rfl (nI_add q 1) (by decide) rfl (fun ls hl => ?_)
                  refine lv_goto (tgt := 121) hx hb d_Model_equal_168 (by decide) ?_
                  refine ih121 (q + 1, false) ls (show 20 - (q + 1) < 20 - q by omega) ?_ (lv_sub hl [0, 1, 2, 3, 4] rfl)
                  exact ⟨by omega, by rw [eq_2, ← hI2]; simp [c_14, c_14n, c_15]⟩
                · have c_15 : b2 = true := bI_t c_15
                  refine lv_aload_n hx hb d_Model_equal_132 rfl (lv_at hl 2 rfl) ?_
                  refine va_get (D := G.1) (ci := 7) (v := .ref (ad 12)) (C := R_Model) (T := F_Model) (N := 23) hx hb ht i_Model hown hK.1 hP 0 rfl rfl 17 (by decide) (ht _ m_522) (fun _ h9 => h9) rfl d_Model_equal_133 ?_
                  refine lv_bipush (v := 20) hx hb d_Model_equal_136 (by decide) ?_
                  refine lv_iload_n hx hb d_Model_equal_138 rfl (lv_at hl 3 rfl) ?_
                  refine lv_imul hx hb d_Model_equal_139 ?_
                  refine sy_ti (y := nI (20 * zd)) (pk_mul 20 zd) ?_
                  refine lv_iload hx hb d_Model_equal_140 (lv_at hl 0 rfl) ?_
                  refine lv_iadd hx hb d_Model_equal_142 ?_
                  refine sy_ti (y := nI ((20 * zd) + q)) (nI_add (20 * zd) q) ?_
                  refine sy_zald hx hb hK.1 hP 13 2 rfl rfl (k := (20 * zd) + q) (by omega) (by decide) d_Model_equal_143 ?_
                  refine lv_aload_n hx hb d_Model_equal_144 rfl (lv_at hl 2 rfl) ?_
                  refine va_get (D := G.1) (ci := 7) (v := .ref (ad 12)) (C := R_Model) (T := F_Model) (N := 23) hx hb ht i_Model hown hK.1 hP 0 rfl rfl 17 (by decide) (ht _ m_522) (fun _ h9 => h9) rfl d_Model_equal_145 ?_
                  refine lv_bipush (v := 20) hx hb d_Model_equal_148 (by decide) ?_
                  refine lv_iload_n hx hb d_Model_equal_150 rfl (lv_at hl 4 rfl) ?_
                  refine lv_imul hx hb d_Model_equal_151 ?_
                  refine sy_ti (y := nI (20 * zdv)) (pk_mul 20 zdv) ?_
                  refine lv_iload hx hb d_Model_equal_152 (lv_at hl 0 rfl) ?_
                  refine lv_iadd hx hb d_Model_equal_154 ?_
                  refine sy_ti (y := nI ((20 * zdv) + q)) (nI_add (20 * zdv) q) ?_
                  refine sy_zald hx hb hK.1 hP 13 2 rfl rfl (k := (20 * zdv) + q) (by omega) (by decide) d_Model_equal_155 ?_
                  refine lv_icmp_ne (tgt := 163) hx hb d_Model_equal_156 (by decide) (fun c_16 => ?_) (fun c_16 => ?_)
                  · have c_16 : ¬ (mZ 12 ((20 * zd) + q)) = (mZ 12 ((20 * zdv) + q)) := fun h9 => c_16 (by rw [h9])
                    refine lv_iconst (v := 0) hx hb d_Model_equal_163 (by decide) ?_
                    refine lv_istore_n (lv' := [(3, .int 0), (4, .int (nI q)), (0, .ref ob), (1, .int (nI zd)), (2, .int (nI zdv))]) hx hb d_Model_equal_164 rfl hl (by decide) rfl (fun ls hl => ?_)
                    refine lv_iinc (v := nI (q + 1)) (lv' := [(4, .int (nI (q + 1))), (3, .int 0), (0, .ref ob), (1, .int (nI zd)), (2, .int (nI zdv))]) hx hb d_Model_equal_165 hl (k := 1) rfl (nI_add q 1) (by decide) rfl (fun ls hl => ?_)
                    refine lv_goto (tgt := 121) hx hb d_Model_equal_168 (by decide) ?_
                    refine ih121 (q + 1, false) ls (show 20 - (q + 1) < 20 - q by omega) ?_ (lv_sub hl [0, 1, 2, 3, 4] rfl)
                    exact ⟨by omega, by rw [eq_2, ← hI2]; simp [c_14, c_14n, c_15, c_16]⟩
                  · have c_16 := bI_i c_16
                    refine lv_iconst (v := 1) hx hb d_Model_equal_159 (by decide) ?_
                    refine lv_goto (tgt := 164) hx hb d_Model_equal_160 (by decide) ?_
                    refine lv_istore_n (lv' := [(3, .int 1), (4, .int (nI q)), (0, .ref ob), (1, .int (nI zd)), (2, .int (nI zdv))]) hx hb d_Model_equal_164 rfl hl (by decide) rfl (fun ls hl => ?_)
                    refine lv_iinc (v := nI (q + 1)) (lv' := [(4, .int (nI (q + 1))), (3, .int 1), (0, .ref ob), (1, .int (nI zd)), (2, .int (nI zdv))]) hx hb d_Model_equal_165 hl (k := 1) rfl (nI_add q 1) (by decide) rfl (fun ls hl => ?_)
                    refine lv_goto (tgt := 121) hx hb d_Model_equal_168 (by decide) ?_
                    refine ih121 (q + 1, true) ls (show 20 - (q + 1) < 20 - q by omega) ?_ (lv_sub hl [0, 1, 2, 3, 4] rfl)
                    exact ⟨by omega, by rw [eq_2, ← hI2]; simp [c_14, c_14n, c_15, c_16]⟩
            · exact ⟨Nat.zero_le _, by rw [hI, show k = 60 by omega]; rfl⟩
          · have c_13 : ¬ 60 ≤ k := fun h9 => c_13 ((nI_leI (a := 60) (b := k) (by omega) (by omega)).mpr h9)
            have c_13n : k < 60 := by omega
            refine lv_bipush (v := 60) hx hb d_Model_equal_50 (by decide) ?_
            refine lv_iload_n hx hb d_Model_equal_52 rfl (lv_at hl 3 rfl) ?_
            refine lv_imul hx hb d_Model_equal_53 ?_
            refine sy_ti (y := nI (60 * zd)) (pk_mul 60 zd) ?_
            refine lv_iload hx hb d_Model_equal_54 (lv_at hl 0 rfl) ?_
            refine lv_iadd hx hb d_Model_equal_56 ?_
            refine sy_ti (y := nI ((60 * zd) + k)) (nI_add (60 * zd) k) ?_
            refine lv_istore (lv' := [(5, .int (nI ((60 * zd) + k))), (4, .int (nI k)), (3, .int (bI b)), (0, .ref ob), (1, .int (nI zd)), (2, .int (nI zdv))]) hx hb d_Model_equal_57 hl (by decide) rfl (fun ls hl => ?_)
            refine lv_bipush (v := 60) hx hb d_Model_equal_59 (by decide) ?_
            refine lv_iload_n hx hb d_Model_equal_61 rfl (lv_at hl 5 rfl) ?_
            refine lv_imul hx hb d_Model_equal_62 ?_
            refine sy_ti (y := nI (60 * zdv)) (pk_mul 60 zdv) ?_
            refine lv_iload hx hb d_Model_equal_63 (lv_at hl 1 rfl) ?_
            refine lv_iadd hx hb d_Model_equal_65 ?_
            refine sy_ti (y := nI ((60 * zdv) + k)) (nI_add (60 * zdv) k) ?_
            refine lv_istore (lv' := [(6, .int (nI ((60 * zdv) + k))), (5, .int (nI ((60 * zd) + k))), (4, .int (nI k)), (3, .int (bI b)), (0, .ref ob), (1, .int (nI zd)), (2, .int (nI zdv))]) hx hb d_Model_equal_66 hl (by decide) rfl (fun ls hl => ?_)
            refine lv_iload_n hx hb d_Model_equal_68 rfl (lv_at hl 3 rfl) ?_
            refine lv_if_eq (tgt := 110) hx hb d_Model_equal_69 (by decide) (fun c_17 => ?_) (fun c_17 => ?_)
            · have c_17 : b = false := bI_f c_17
              refine lv_iconst (v := 0) hx hb d_Model_equal_110 (by decide) ?_
              refine lv_istore_n (lv' := [(3, .int 0), (6, .int (nI ((60 * zdv) + k))), (5, .int (nI ((60 * zd) + k))), (4, .int (nI k)), (0, .ref ob), (1, .int (nI zd)), (2, .int (nI zdv))]) hx hb d_Model_equal_111 rfl hl (by decide) rfl (fun ls hl => ?_)
              refine lv_iinc (v := nI (k + 1)) (lv' := [(4, .int (nI (k + 1))), (3, .int 0), (6, .int (nI ((60 * zdv) + k))), (5, .int (nI ((60 * zd) + k))), (0, .ref ob), (1, .int (nI zd)), (2, .int (nI zdv))]) hx hb d_Model_equal_112 hl (k := 3) rfl (nI_add k 1) (by decide) rfl (fun ls hl => ?_)
              refine lv_goto (tgt := 43) hx hb d_Model_equal_115 (by decide) ?_
              refine ih43 (k + 1, false) ls (show 60 - (k + 1) < 60 - k by omega) ?_ (lv_sub hl [0, 1, 4, 5, 6] rfl)
              exact ⟨by omega, by rw [eq_1, ← hI]; simp [c_13, c_13n, c_17]⟩
            · have c_17 : b = true := bI_t c_17
              refine lv_aload_n hx hb d_Model_equal_72 rfl (lv_at hl 4 rfl) ?_
              refine va_get (D := G.1) (ci := 7) (v := .ref (ad 10)) (C := R_Model) (T := F_Model) (N := 23) hx hb ht i_Model hown hK.1 hP 0 rfl rfl 15 (by decide) (ht _ m_520) (fun _ h9 => h9) rfl d_Model_equal_73 ?_
              refine lv_iload hx hb d_Model_equal_76 (lv_at hl 1 rfl) ?_
              refine sy_zald hx hb hK.1 hP 11 2 rfl rfl (k := (60 * zd) + k) (by omega) (by decide) d_Model_equal_78 ?_
              refine lv_aload_n hx hb d_Model_equal_79 rfl (lv_at hl 4 rfl) ?_
              refine va_get (D := G.1) (ci := 7) (v := .ref (ad 10)) (C := R_Model) (T := F_Model) (N := 23) hx hb ht i_Model hown hK.1 hP 0 rfl rfl 15 (by decide) (ht _ m_520) (fun _ h9 => h9) rfl d_Model_equal_80 ?_
              refine lv_iload hx hb d_Model_equal_83 (lv_at hl 0 rfl) ?_
              refine sy_zald hx hb hK.1 hP 11 2 rfl rfl (k := (60 * zdv) + k) (by omega) (by decide) d_Model_equal_85 ?_
              refine lv_icmp_ne (tgt := 110) hx hb d_Model_equal_86 (by decide) (fun c_18 => ?_) (fun c_18 => ?_)
              · have c_18 : ¬ (mZ 10 ((60 * zd) + k)) = (mZ 10 ((60 * zdv) + k)) := fun h9 => c_18 (by rw [h9])
                refine lv_iconst (v := 0) hx hb d_Model_equal_110 (by decide) ?_
                refine lv_istore_n (lv' := [(3, .int 0), (6, .int (nI ((60 * zdv) + k))), (5, .int (nI ((60 * zd) + k))), (4, .int (nI k)), (0, .ref ob), (1, .int (nI zd)), (2, .int (nI zdv))]) hx hb d_Model_equal_111 rfl hl (by decide) rfl (fun ls hl => ?_)
                refine lv_iinc (v := nI (k + 1)) (lv' := [(4, .int (nI (k + 1))), (3, .int 0), (6, .int (nI ((60 * zdv) + k))), (5, .int (nI ((60 * zd) + k))), (0, .ref ob), (1, .int (nI zd)), (2, .int (nI zdv))]) hx hb d_Model_equal_112 hl (k := 3) rfl (nI_add k 1) (by decide) rfl (fun ls hl => ?_)
                refine lv_goto (tgt := 43) hx hb d_Model_equal_115 (by decide) ?_
                refine ih43 (k + 1, false) ls (show 60 - (k + 1) < 60 - k by omega) ?_ (lv_sub hl [0, 1, 4, 5, 6] rfl)
                exact ⟨by omega, by rw [eq_1, ← hI]; simp [c_13, c_13n, c_17, c_18]⟩
              · have c_18 := bI_i c_18
                refine lv_aload_n hx hb d_Model_equal_89 rfl (lv_at hl 4 rfl) ?_
                refine va_get (D := G.1) (ci := 7) (v := .ref (ad 11)) (C := R_Model) (T := F_Model) (N := 23) hx hb ht i_Model hown hK.1 hP 0 rfl rfl 16 (by decide) (ht _ m_521) (fun _ h9 => h9) rfl d_Model_equal_90 ?_
                refine lv_iload hx hb d_Model_equal_93 (lv_at hl 1 rfl) ?_
                refine sy_zald hx hb hK.1 hP 12 2 rfl rfl (k := (60 * zd) + k) (by omega) (by decide) d_Model_equal_95 ?_
                refine lv_aload_n hx hb d_Model_equal_96 rfl (lv_at hl 4 rfl) ?_
                refine va_get (D := G.1) (ci := 7) (v := .ref (ad 11)) (C := R_Model) (T := F_Model) (N := 23) hx hb ht i_Model hown hK.1 hP 0 rfl rfl 16 (by decide) (ht _ m_521) (fun _ h9 => h9) rfl d_Model_equal_97 ?_
                refine lv_iload hx hb d_Model_equal_100 (lv_at hl 0 rfl) ?_
                refine sy_zald hx hb hK.1 hP 12 2 rfl rfl (k := (60 * zdv) + k) (by omega) (by decide) d_Model_equal_102 ?_
                refine lv_icmp_ne (tgt := 110) hx hb d_Model_equal_103 (by decide) (fun c_19 => ?_) (fun c_19 => ?_)
                · have c_19 : ¬ (mZ 11 ((60 * zd) + k)) = (mZ 11 ((60 * zdv) + k)) := fun h9 => c_19 (by rw [h9])
                  refine lv_iconst (v := 0) hx hb d_Model_equal_110 (by decide) ?_
                  refine lv_istore_n (lv' := [(3, .int 0), (6, .int (nI ((60 * zdv) + k))), (5, .int (nI ((60 * zd) + k))), (4, .int (nI k)), (0, .ref ob), (1, .int (nI zd)), (2, .int (nI zdv))]) hx hb d_Model_equal_111 rfl hl (by decide) rfl (fun ls hl => ?_)
                  refine lv_iinc (v := nI (k + 1)) (lv' := [(4, .int (nI (k + 1))), (3, .int 0), (6, .int (nI ((60 * zdv) + k))), (5, .int (nI ((60 * zd) + k))), (0, .ref ob), (1, .int (nI zd)), (2, .int (nI zdv))]) hx hb d_Model_equal_112 hl (k := 3) rfl (nI_add k 1) (by decide) rfl (fun ls hl => ?_)
                  refine lv_goto (tgt := 43) hx hb d_Model_equal_115 (by decide) ?_
                  refine ih43 (k + 1, false) ls (show 60 - (k + 1) < 60 - k by omega) ?_ (lv_sub hl [0, 1, 4, 5, 6] rfl)
                  exact ⟨by omega, by rw [eq_1, ← hI]; simp [c_13, c_13n, c_17, c_18, c_19]⟩
                · have c_19 := bI_i c_19
                  refine lv_iconst (v := 1) hx hb d_Model_equal_106 (by decide) ?_
                  refine lv_goto (tgt := 111) hx hb d_Model_equal_107 (by decide) ?_
                  refine lv_istore_n (lv' := [(3, .int 1), (6, .int (nI ((60 * zdv) + k))), (5, .int (nI ((60 * zd) + k))), (4, .int (nI k)), (0, .ref ob), (1, .int (nI zd)), (2, .int (nI zdv))]) hx hb d_Model_equal_111 rfl hl (by decide) rfl (fun ls hl => ?_)
                  refine lv_iinc (v := nI (k + 1)) (lv' := [(4, .int (nI (k + 1))), (3, .int 1), (6, .int (nI ((60 * zdv) + k))), (5, .int (nI ((60 * zd) + k))), (0, .ref ob), (1, .int (nI zd)), (2, .int (nI zdv))]) hx hb d_Model_equal_112 hl (k := 3) rfl (nI_add k 1) (by decide) rfl (fun ls hl => ?_)
                  refine lv_goto (tgt := 43) hx hb d_Model_equal_115 (by decide) ?_
                  refine ih43 (k + 1, true) ls (show 60 - (k + 1) < 60 - k by omega) ?_ (lv_sub hl [0, 1, 4, 5, 6] rfl)
                  exact ⟨by omega, by rw [eq_1, ← hI]; simp [c_13, c_13n, c_17, c_18, c_19]⟩
        · exact ⟨Nat.zero_le _, by simp [eq_1, c_2, hczd, c_4, hczdv, c_5]⟩
    · have c_4 : (mo_ok (sc 3) dv) = false := bI_f c_4
      refine lv_iconst (v := 0) hx hb d_Model_equal_16 (by decide) ?_
      exact W.zret (v := (0 : Int32)) hx hb hr (rfl) (fun t ht hW => ⟨(0 : Int32), rfl, by first | (simp [bI, mo_equal, c_2, hczd, c_4]; done) | (rw [hI2, show q = 20 by omega]; simp [mo_equal, c_2, hczd, c_4]; done), ht⟩) (fun q h => by cases h) d_Model_equal_17
