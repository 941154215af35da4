set_option maxHeartbeats 4000000 in
set_option maxRecDepth 100000 in
theorem c_DeviceSets_isNumber (l : Launch) (G : sy_G) (x : Int64) : Met l y_DeviceSets_isNumber (sy_w y_DeviceSets_isNumber b_DeviceSets_isNumber 2 (some .boolean)) { frames := 0, cells := 0, slots := 0, locals := 0 } (va_Pc [.long x] (sy_KP G (fun _ => True))) (vp_Si (fun r => r = bI (ok_num x))) 0 0 (fun _ => False) := by
  refine Met.ofW (cc := b_DeviceSets_isNumber) (maxL := 2) (ret := (some .boolean)) (by decide) rfl ?_
  intro p e s m args below meth c s₁ B hml hv
  obtain ⟨rfl, hP, hK⟩ := hv
  have hx := B.exec
  have hb := B.bytes
  have hr := B.returns
  have hts := atoms_spec (ws := sy_w y_DeviceSets_isNumber b_DeviceSets_isNumber 2 (some .boolean)) B.pre
  have ht : ∀ wd ∈ sy_T, wd.before ([.long x] : List Value).toArray s = true := fun wd h => hts wd (List.mem_cons_of_mem _ h)
  have hown : s.vm.findClass R_DeviceSets = some m.cls := findClass_of_methodNamed B.named
  have hlocks := B.notSynchronized
  have hl := lv_entry ([.long x]) (n := 2) (Nat.le_of_ble_eq_true rfl)
  rw [lg_entry_eq]
  generalize (lg_sl ([.long x]) ++ List.replicate (2 - (lg_sl ([.long x])).length) Slot.unset).toArray = ls at hl ⊢
  have hl : lv_has ls 2 [(0, .long x)] := hl
  refine lv_lload_n hx hb d_DeviceSets_isNumber_0 rfl (lv_at hl 0 rfl) ?_
  refine lv_lconst (v := 0) hx hb d_DeviceSets_isNumber_1 (by decide) ?_
  refine sy_lc_lt (tgt := 18) hx hb d_DeviceSets_isNumber_2 d_DeviceSets_isNumber_3 (by decide) (fun c_1 => ?_) (fun c_1 => ?_)
  · have c_1n := sy_a64 c_1
    refine lv_iconst (v := 0) hx hb d_DeviceSets_isNumber_18 (by decide) ?_
    exact W.zret (v := (0 : Int32)) hx hb hr (rfl) (fun t ht hW => ⟨(0 : Int32), rfl, by simp [bI, ok_num, c_1, c_1n], ht⟩) (fun q h => by cases h) d_DeviceSets_isNumber_19
  · have c_1n := sy_b64 c_1
    refine lv_lload_n hx hb d_DeviceSets_isNumber_6 rfl (lv_at hl 0 rfl) ?_
    refine lv_ldc2 (v := 1000000) hx hb hown (ht _ m_182) d_DeviceSets_isNumber_7 ?_
    refine sy_lc_gt (tgt := 18) hx hb d_DeviceSets_isNumber_10 d_DeviceSets_isNumber_11 (by decide) (fun c_2 => ?_) (fun c_2 => ?_)
    · have c_2n := sy_a64 c_2
      refine lv_iconst (v := 0) hx hb d_DeviceSets_isNumber_18 (by decide) ?_
      exact W.zret (v := (0 : Int32)) hx hb hr (rfl) (fun t ht hW => ⟨(0 : Int32), rfl, by simp [bI, ok_num, c_1, c_1n, c_2, c_2n], ht⟩) (fun q h => by cases h) d_DeviceSets_isNumber_19
    · have c_2n := sy_b64 c_2
      refine lv_iconst (v := 1) hx hb d_DeviceSets_isNumber_14 (by decide) ?_
      refine lv_goto (tgt := 19) hx hb d_DeviceSets_isNumber_15 (by decide) ?_
      exact W.zret (v := (1 : Int32)) hx hb hr (rfl) (fun t ht hW => ⟨(1 : Int32), rfl, by simp [bI, ok_num, c_1, c_1n, c_2, c_2n], ht⟩) (fun q h => by cases h) d_DeviceSets_isNumber_19
set_option maxHeartbeats 4000000 in
set_option maxRecDepth 100000 in
theorem c_DeviceSets_isKind (l : Launch) (G : sy_G) (x : Int32) : Met l y_DeviceSets_isKind (sy_w y_DeviceSets_isKind b_DeviceSets_isKind 1 (some .boolean)) { frames := 0, cells := 0, slots := 0, locals := 0 } (va_Pc [.int x] (sy_KP G (fun _ => True))) (vp_Si (fun r => r = bI (ok_kind x))) 0 0 (fun _ => False) := by
  refine Met.ofW (cc := b_DeviceSets_isKind) (maxL := 1) (ret := (some .boolean)) (by decide) rfl ?_
  intro p e s m args below meth c s₁ B hml hv
  obtain ⟨rfl, hP, hK⟩ := hv
  have hx := B.exec
  have hb := B.bytes
  have hr := B.returns
  have hts := atoms_spec (ws := sy_w y_DeviceSets_isKind b_DeviceSets_isKind 1 (some .boolean)) B.pre
  have ht : ∀ wd ∈ sy_T, wd.before ([.int x] : List Value).toArray s = true := fun wd h => hts wd (List.mem_cons_of_mem _ h)
  have hown : s.vm.findClass R_DeviceSets = some m.cls := findClass_of_methodNamed B.named
  have hlocks := B.notSynchronized
  have hl := lv_entry ([.int x]) (n := 1) (Nat.le_of_ble_eq_true rfl)
  rw [lg_entry_eq]
  generalize (lg_sl ([.int x]) ++ List.replicate (1 - (lg_sl ([.int x])).length) Slot.unset).toArray = ls at hl ⊢
  have hl : lv_has ls 1 [(0, .int x)] := hl
  refine lv_iload_n hx hb d_DeviceSets_isKind_0 rfl (lv_at hl 0 rfl) ?_
  refine lv_if_lt (tgt := 13) hx hb d_DeviceSets_isKind_1 (by decide) (fun c_1 => ?_) (fun c_1 => ?_)
  · have c_1n := sy_a32 c_1
    refine lv_iconst (v := 0) hx hb d_DeviceSets_isKind_13 (by decide) ?_
    exact W.zret (v := (0 : Int32)) hx hb hr (rfl) (fun t ht hW => ⟨(0 : Int32), rfl, by simp [bI, ok_kind, c_1, c_1n], ht⟩) (fun q h => by cases h) d_DeviceSets_isKind_14
  · have c_1n := sy_b32 c_1
    refine lv_iload_n hx hb d_DeviceSets_isKind_4 rfl (lv_at hl 0 rfl) ?_
    refine lv_iconst (v := 4) hx hb d_DeviceSets_isKind_5 (by decide) ?_
    refine lv_icmp_ge (tgt := 13) hx hb d_DeviceSets_isKind_6 (by decide) (fun c_2 => ?_) (fun c_2 => ?_)
    · have c_2n := sy_c32 c_2
      refine lv_iconst (v := 0) hx hb d_DeviceSets_isKind_13 (by decide) ?_
      exact W.zret (v := (0 : Int32)) hx hb hr (rfl) (fun t ht hW => ⟨(0 : Int32), rfl, by simp [bI, ok_kind, c_1, c_1n, c_2, c_2n], ht⟩) (fun q h => by cases h) d_DeviceSets_isKind_14
    · have c_2n := sy_d32 c_2
      refine lv_iconst (v := 1) hx hb d_DeviceSets_isKind_9 (by decide) ?_
      refine lv_goto (tgt := 14) hx hb d_DeviceSets_isKind_10 (by decide) ?_
      exact W.zret (v := (1 : Int32)) hx hb hr (rfl) (fun t ht hW => ⟨(1 : Int32), rfl, by simp [bI, ok_kind, c_1, c_1n, c_2, c_2n], ht⟩) (fun q h => by cases h) d_DeviceSets_isKind_14
set_option maxHeartbeats 4000000 in
set_option maxRecDepth 100000 in
theorem c_DeviceSets_isValue (l : Launch) (G : sy_G) (x : Int64) : Met l y_DeviceSets_isValue (sy_w y_DeviceSets_isValue b_DeviceSets_isValue 2 (some .boolean)) { frames := 0, cells := 0, slots := 0, locals := 0 } (va_Pc [.long x] (sy_KP G (fun _ => True))) (vp_Si (fun r => r = bI (ok_val x))) 0 0 (fun _ => False) := by
  refine Met.ofW (cc := b_DeviceSets_isValue) (maxL := 2) (ret := (some .boolean)) (by decide) rfl ?_
  intro p e s m args below meth c s₁ B hml hv
  obtain ⟨rfl, hP, hK⟩ := hv
  have hx := B.exec
  have hb := B.bytes
  have hr := B.returns
  have hts := atoms_spec (ws := sy_w y_DeviceSets_isValue b_DeviceSets_isValue 2 (some .boolean)) B.pre
  have ht : ∀ wd ∈ sy_T, wd.before ([.long x] : List Value).toArray s = true := fun wd h => hts wd (List.mem_cons_of_mem _ h)
  have hown : s.vm.findClass R_DeviceSets = some m.cls := findClass_of_methodNamed B.named
  have hlocks := B.notSynchronized
  have hl := lv_entry ([.long x]) (n := 2) (Nat.le_of_ble_eq_true rfl)
  rw [lg_entry_eq]
  generalize (lg_sl ([.long x]) ++ List.replicate (2 - (lg_sl ([.long x])).length) Slot.unset).toArray = ls at hl ⊢
  have hl : lv_has ls 2 [(0, .long x)] := hl
  refine lv_lload_n hx hb d_DeviceSets_isValue_0 rfl (lv_at hl 0 rfl) ?_
  refine lv_ldc2 (v := (-1000000000)) hx hb hown (ht _ m_189) d_DeviceSets_isValue_1 ?_
  refine sy_lc_lt (tgt := 20) hx hb d_DeviceSets_isValue_4 d_DeviceSets_isValue_5 (by decide) (fun c_1 => ?_) (fun c_1 => ?_)
  · have c_1n := sy_a64 c_1
    refine lv_iconst (v := 0) hx hb d_DeviceSets_isValue_20 (by decide) ?_
    exact W.zret (v := (0 : Int32)) hx hb hr (rfl) (fun t ht hW => ⟨(0 : Int32), rfl, by simp [bI, ok_val, c_1, c_1n], ht⟩) (fun q h => by cases h) d_DeviceSets_isValue_21
  · have c_1n := sy_b64 c_1
    refine lv_lload_n hx hb d_DeviceSets_isValue_8 rfl (lv_at hl 0 rfl) ?_
    refine lv_ldc2 (v := 1000000000) hx hb hown (ht _ m_190) d_DeviceSets_isValue_9 ?_
    refine sy_lc_gt (tgt := 20) hx hb d_DeviceSets_isValue_12 d_DeviceSets_isValue_13 (by decide) (fun c_2 => ?_) (fun c_2 => ?_)
    · have c_2n := sy_a64 c_2
      refine lv_iconst (v := 0) hx hb d_DeviceSets_isValue_20 (by decide) ?_
      exact W.zret (v := (0 : Int32)) hx hb hr (rfl) (fun t ht hW => ⟨(0 : Int32), rfl, by simp [bI, ok_val, c_1, c_1n, c_2, c_2n], ht⟩) (fun q h => by cases h) d_DeviceSets_isValue_21
    · have c_2n := sy_b64 c_2
      refine lv_iconst (v := 1) hx hb d_DeviceSets_isValue_16 (by decide) ?_
      refine lv_goto (tgt := 21) hx hb d_DeviceSets_isValue_17 (by decide) ?_
      exact W.zret (v := (1 : Int32)) hx hb hr (rfl) (fun t ht hW => ⟨(1 : Int32), rfl, by simp [bI, ok_val, c_1, c_1n, c_2, c_2n], ht⟩) (fun q h => by cases h) d_DeviceSets_isValue_21
set_option maxHeartbeats 4000000 in
set_option maxRecDepth 100000 in
theorem c_DeviceSets_bit (l : Launch) (G : sy_G) (k : Nat) : Met l y_DeviceSets_bit (sy_w y_DeviceSets_bit b_DeviceSets_bit 1 (some .long)) { frames := 0, cells := 0, slots := 0, locals := 0 } (va_Pc [.int (nI k)] (sy_KP G (fun _ => True))) (vp_Sl (fun r => r = bs_b k)) 0 0 (fun _ => False) := by
  refine Met.ofW (cc := b_DeviceSets_bit) (maxL := 1) (ret := (some .long)) (by decide) rfl ?_
  intro p e s m args below meth c s₁ B hml hv
  obtain ⟨rfl, hP, hK⟩ := hv
  have hx := B.exec
  have hb := B.bytes
  have hr := B.returns
  have hts := atoms_spec (ws := sy_w y_DeviceSets_bit b_DeviceSets_bit 1 (some .long)) B.pre
  have ht : ∀ wd ∈ sy_T, wd.before ([.int (nI k)] : List Value).toArray s = true := fun wd h => hts wd (List.mem_cons_of_mem _ h)
  have hown : s.vm.findClass R_DeviceSets = some m.cls := findClass_of_methodNamed B.named
  have hlocks := B.notSynchronized
  have hl := lv_entry ([.int (nI k)]) (n := 1) (Nat.le_of_ble_eq_true rfl)
  rw [lg_entry_eq]
  generalize (lg_sl ([.int (nI k)]) ++ List.replicate (1 - (lg_sl ([.int (nI k)])).length) Slot.unset).toArray = ls at hl ⊢
  have hl : lv_has ls 1 [(0, .int (nI k))] := hl
  refine lv_lconst (v := 1) hx hb d_DeviceSets_bit_0 (by decide) ?_
  refine lv_iload_n hx hb d_DeviceSets_bit_1 rfl (lv_at hl 0 rfl) ?_
  refine lv_lshl (v := (1 : Int64) <<< ((nI k).toInt64 &&& 63)) hx hb d_DeviceSets_bit_2 rfl ?_
  exact W.lret (v := (1 : Int64) <<< ((nI k).toInt64 &&& 63)) hx hb hr (fun t ht hW => ⟨(1 : Int64) <<< ((nI k).toInt64 &&& 63), rfl, rfl, ht⟩) (fun q h => by cases h) d_DeviceSets_bit_3
set_option maxHeartbeats 4000000 in
set_option maxRecDepth 100000 in
theorem c_DeviceSets_isIn (l : Launch) (G : sy_G) (k : Nat) (x : Int64) : Met l y_DeviceSets_isIn (sy_w y_DeviceSets_isIn b_DeviceSets_isIn 3 (some .boolean)) { frames := 1, cells := 0, slots := 0, locals := 20 } (va_Pc [.int (nI k), .long x] (sy_KP G (fun _ => True))) (vp_Si (fun r => r = bI (bs_in x k))) 0 0 (fun _ => False) := by
  refine Met.ofW (cc := b_DeviceSets_isIn) (maxL := 3) (ret := (some .boolean)) (by decide) rfl ?_
  intro p e s m args below meth c s₁ B hml hv
  obtain ⟨rfl, hP, hK⟩ := hv
  have hx := B.exec
  have hb := B.bytes
  have hr := B.returns
  have hts := atoms_spec (ws := sy_w y_DeviceSets_isIn b_DeviceSets_isIn 3 (some .boolean)) B.pre
  have ht : ∀ wd ∈ sy_T, wd.before ([.int (nI k), .long x] : List Value).toArray s = true := fun wd h => hts wd (List.mem_cons_of_mem _ h)
  have hown : s.vm.findClass R_DeviceSets = some m.cls := findClass_of_methodNamed B.named
  have hlocks := B.notSynchronized
  have hl := lv_entry ([.int (nI k), .long x]) (n := 3) (Nat.le_of_ble_eq_true rfl)
  rw [lg_entry_eq]
  generalize (lg_sl ([.int (nI k), .long x]) ++ List.replicate (3 - (lg_sl ([.int (nI k), .long x])).length) Slot.unset).toArray = ls at hl ⊢
  have hl : lv_has ls 3 [(0, .int (nI k)), (1, .long x)] := hl
  refine lv_lload_n hx hb d_DeviceSets_isIn_0 rfl (lv_at hl 1 rfl) ?_
  refine lv_iload_n hx hb d_DeviceSets_isIn_1 rfl (lv_at hl 0 rfl) ?_
  refine vp_callSl (va_Run.run (sy_runS (As := [.int (nI k)]) (rest := [.long x]) ⟨hx, hb, hml, hown, ht⟩ cl_DeviceSets_110 (c_DeviceSets_bit l G k) hK trivial rfl nm_DeviceSets_bit rfl rfl ⟨Nat.le_of_ble_eq_true rfl, Nat.le_of_ble_eq_true rfl⟩ hl.1 (Nat.le_of_ble_eq_true rfl) d_DeviceSets_isIn_2 ⟨Nat.zero_le _, Nat.zero_le _⟩)) (fun r_1 hr_1 => ?_)
  subst hr_1
  refine lv_land hx hb d_DeviceSets_isIn_5 ?_
  refine lv_lconst (v := 0) hx hb d_DeviceSets_isIn_6 (by decide) ?_
  refine sy_lc_eq (tgt := 15) hx hb d_DeviceSets_isIn_7 d_DeviceSets_isIn_8 (by decide) (fun c_2 => ?_) (fun c_2 => ?_)
  · refine lv_iconst (v := 0) hx hb d_DeviceSets_isIn_15 (by decide) ?_
    exact W.zret (v := (0 : Int32)) hx hb hr (rfl) (fun t ht hW => ⟨(0 : Int32), rfl, by simp [bI, bs_in, c_2], ht⟩) (fun q h => by cases h) d_DeviceSets_isIn_16
  · refine lv_iconst (v := 1) hx hb d_DeviceSets_isIn_11 (by decide) ?_
    refine lv_goto (tgt := 16) hx hb d_DeviceSets_isIn_12 (by decide) ?_
    exact W.zret (v := (1 : Int32)) hx hb hr (rfl) (fun t ht hW => ⟨(1 : Int32), rfl, by simp [bI, bs_in, c_2], ht⟩) (fun q h => by cases h) d_DeviceSets_isIn_16
set_option maxHeartbeats 4000000 in
set_option maxRecDepth 100000 in
theorem c_DeviceSets_nextDraw (l : Launch) (G : sy_G) (x : Int64) : Met l y_DeviceSets_nextDraw (sy_w y_DeviceSets_nextDraw b_DeviceSets_nextDraw 2 (some .long)) { frames := 0, cells := 0, slots := 0, locals := 0 } (va_Pc [.long x] (sy_KP G (fun _ => True))) (vp_Sl (fun r => r = dr_next x)) 0 0 (fun _ => False) := by
  refine Met.ofW (cc := b_DeviceSets_nextDraw) (maxL := 2) (ret := (some .long)) (by decide) rfl ?_
  intro p e s m args below meth c s₁ B hml hv
  obtain ⟨rfl, hP, hK⟩ := hv
  have hx := B.exec
  have hb := B.bytes
  have hr := B.returns
  have hts := atoms_spec (ws := sy_w y_DeviceSets_nextDraw b_DeviceSets_nextDraw 2 (some .long)) B.pre
  have ht : ∀ wd ∈ sy_T, wd.before ([.long x] : List Value).toArray s = true := fun wd h => hts wd (List.mem_cons_of_mem _ h)
  have hown : s.vm.findClass R_DeviceSets = some m.cls := findClass_of_methodNamed B.named
  have hlocks := B.notSynchronized
  have hl := lv_entry ([.long x]) (n := 2) (Nat.le_of_ble_eq_true rfl)
  rw [lg_entry_eq]
  generalize (lg_sl ([.long x]) ++ List.replicate (2 - (lg_sl ([.long x])).length) Slot.unset).toArray = ls at hl ⊢
  have hl : lv_has ls 2 [(0, .long x)] := hl
  refine lv_lload_n hx hb d_DeviceSets_nextDraw_0 rfl (lv_at hl 0 rfl) ?_
  refine lv_ldc2 (v := 6364136223846793005) hx hb hown (ht _ m_493) d_DeviceSets_nextDraw_1 ?_
  refine lv_lmul hx hb d_DeviceSets_nextDraw_4 ?_
  refine lv_ldc2 (v := 1442695040888963407) hx hb hown (ht _ m_494) d_DeviceSets_nextDraw_5 ?_
  refine lv_ladd hx hb d_DeviceSets_nextDraw_8 ?_
  exact W.lret (v := (x * 6364136223846793005) + 1442695040888963407) hx hb hr (fun t ht hW => ⟨(x * 6364136223846793005) + 1442695040888963407, rfl, rfl, ht⟩) (fun q h => by cases h) d_DeviceSets_nextDraw_9
