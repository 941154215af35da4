set_option maxHeartbeats 4000000 in
set_option maxRecDepth 100000 in
theorem c_Model_endBatch (l : Launch) (G : sy_G) (ob : Nat) (ad : Nat → Nat) (sc : Nat → Nat) (mI : Nat → Nat → Int32) (mL : Nat → Nat → Int64) (mZ : Nat → Nat → Bool) (b : Int32) (hs : sc 3 ≤ 6) : Met l y_Model_endBatch (sy_w y_Model_endBatch b_Model_endBatch 4 (some .boolean)) { frames := 1, cells := 0, slots := 0, locals := 26 } (va_Pc [.ref ob, .int b] (sy_KP G (fun H => va_P G.1 classes (mw G.2 ob ad sc mI mL mZ) H ∧ va_D (fun _ => True) (mw G.2 ob ad sc mI mL mZ)))) (va_Qi (S := ms_S) (fun r u => r = bI (mo_end sc mI mL mZ b).1 ∧ u = (mo_end sc mI mL mZ b).2) (fun u t => va_P G.1 classes (mw G.2 ob ad u.1 u.2.1 u.2.2.1 u.2.2.2) t.heap) (sy_A (mw G.2 ob ad sc mI mL mZ))) 0 0 (sy_A (mw G.2 ob ad sc mI mL mZ)) := by
  refine Met.ofW (cc := b_Model_endBatch) (maxL := 4) (ret := (some .boolean)) (by decide) rfl ?_
  intro p e s m args below meth c s₁ B hml hv
  obtain ⟨rfl, ⟨hP, hD0⟩, hK⟩ := hv
  have hx := B.exec
  have hb := B.bytes
  have hr := B.returns
  have hts := atoms_spec (ws := sy_w y_Model_endBatch b_Model_endBatch 4 (some .boolean)) B.pre
  have ht : ∀ wd ∈ sy_T, wd.before ([.ref ob, .int b] : List Value).toArray s = true := fun wd h => hts wd (List.mem_cons_of_mem _ h)
  have hown : s.vm.findClass R_Model = some m.cls := findClass_of_methodNamed B.named
  have hlocks := B.notSynchronized
  have hD := sy_self hD0
  generalize hAe : sy_A (mw G.2 ob ad sc mI mL mZ) = A at hD ⊢
  have hS : va_S A s.heap s.heap [] := va_S.rf
  have hl := lv_entry ([.ref ob, .int b]) (n := 4) (Nat.le_of_ble_eq_true rfl)
  rw [lg_entry_eq]
  generalize (lg_sl ([.ref ob, .int b]) ++ List.replicate (4 - (lg_sl ([.ref ob, .int b])).length) Slot.unset).toArray = ls at hl ⊢
  have hl : lv_has ls 4 [(0, .ref ob), (1, .int b)] := hl
  refine lv_iconst (v := 0) hx hb d_Model_endBatch_0 (by decide) ?_
  refine lv_istore_n (lv' := [(2, .int 0), (0, .ref ob), (1, .int b)]) hx hb d_Model_endBatch_1 rfl hl (by decide) rfl (fun ls hl => ?_)
  refine sy_loop (σ := Nat) (nL := 4) (fun k => sc 3 - k) (fun k => [(2, .int (nI k)), (0, .ref ob), (1, .int b)]) (fun k => k ≤ sc 3 ∧ nn_ff (mo_ep mI b) k = none) ?_ 0 ?_ (lv_sub hl [0, 1, 2] rfl)
  · intro k ls hI hl ih2
    have hl : lv_has ls 4 [(2, .int (nI k)), (0, .ref ob), (1, .int b)] := hl
    obtain ⟨hk, hI⟩ := hI
    refine lv_iload_n hx hb d_Model_endBatch_2 rfl (lv_at hl 0 rfl) ?_
    refine lv_aload_n hx hb d_Model_endBatch_3 rfl (lv_at hl 1 rfl) ?_
    refine va_get (D := G.1) (ci := 7) (v := .int (nI (sc 3))) (C := R_Model) (T := F_Model) (N := 23) hx hb ht i_Model hown hK.1 hP 0 rfl rfl 13 (by decide) (ht _ m_518) (fun _ h9 => h9) rfl d_Model_endBatch_4 ?_
    refine lv_icmp_ge (tgt := 49) hx hb d_Model_endBatch_7 (by decide) (fun c_1 => ?_) (fun c_1 => ?_)
    · have c_1 : (sc 3) ≤ k := (nI_leI (a := sc 3) (b := k) (by omega) (by omega)).mp c_1
      have c_1n : ¬ k < (sc 3) := by omega
      refine lv_iconst (v := 0) hx hb d_Model_endBatch_49 (by decide) ?_
      exact W.zret (v := (0 : Int32)) hx hb hr (rfl) (fun t ht hW => ⟨⟨(0 : Int32), (sc, mI, mL, mZ), rfl, by first | (have e : k = sc 3 := (by omega); rw [e] at hI; constructor <;> simp [mo_end, hI, mo_ev, bI]; done) | (have e : nn_ff (mo_ep mI b) (sc 3) = some k := nn_ff_of (by omega) hI (by simp [mo_ep, c_1, c_1n]; done); constructor <;> (rw [mo_end, e]; rfl)), by show va_P _ _ _ t.heap; rw [ht]; exact hP⟩, hS.F ht⟩) hS.2.2 d_Model_endBatch_50
    · have c_1 : ¬ (sc 3) ≤ k := fun h9 => c_1 ((nI_leI (a := sc 3) (b := k) (by omega) (by omega)).mpr h9)
      have c_1n : k < (sc 3) := by omega
      refine lv_iload_n hx hb d_Model_endBatch_10 rfl (lv_at hl 2 rfl) ?_
      refine lv_if_lt (tgt := 43) hx hb d_Model_endBatch_11 (by decide) (fun c_2 => ?_) (fun c_2 => ?_)
      · have c_2n := sy_a32 c_2
        refine lv_iinc (v := nI (k + 1)) (lv' := [(2, .int (nI (k + 1))), (0, .ref ob), (1, .int b)]) hx hb d_Model_endBatch_43 hl (k := 0) rfl (nI_add k 1) (by decide) rfl (fun ls hl => ?_)
        refine lv_goto (tgt := 2) hx hb d_Model_endBatch_46 (by decide) ?_
        refine ih2 (k + 1) ls (show sc 3 - (k + 1) < sc 3 - k by omega) ?_ (lv_sub hl [0, 1, 2] rfl)
        exact ⟨by omega, by simp [nn_ff, hI, mo_ep, c_1, c_1n, c_2, c_2n]⟩
      · have c_2n := sy_b32 c_2
        refine lv_aload_n hx hb d_Model_endBatch_14 rfl (lv_at hl 1 rfl) ?_
        refine va_get (D := G.1) (ci := 7) (v := .ref (ad 14)) (C := R_Model) (T := F_Model) (N := 23) hx hb ht i_Model hown hK.1 hP 0 rfl rfl 19 (by decide) (ht _ m_524) (fun _ h9 => h9) rfl d_Model_endBatch_15 ?_
        refine lv_iload_n hx hb d_Model_endBatch_18 rfl (lv_at hl 0 rfl) ?_
        refine sy_iald hx hb hK.1 hP 15 0 rfl rfl (k := k) (by omega) (by decide) d_Model_endBatch_19 ?_
        refine lv_iload_n hx hb d_Model_endBatch_20 rfl (lv_at hl 2 rfl) ?_
        refine lv_icmp_ne (tgt := 43) hx hb d_Model_endBatch_21 (by decide) (fun c_3 => ?_) (fun c_3 => ?_)
        · refine lv_iinc (v := nI (k + 1)) (lv' := [(2, .int (nI (k + 1))), (0, .ref ob), (1, .int b)]) hx hb d_Model_endBatch_43 hl (k := 0) rfl (nI_add k 1) (by decide) rfl (fun ls hl => ?_)
          refine lv_goto (tgt := 2) hx hb d_Model_endBatch_46 (by decide) ?_
          refine ih2 (k + 1) ls (show sc 3 - (k + 1) < sc 3 - k by omega) ?_ (lv_sub hl [0, 1, 2] rfl)
          exact ⟨by omega, by simp [nn_ff, hI, mo_ep, c_1, c_1n, c_2, c_2n, c_3]⟩
        · refine lv_aload_n hx hb d_Model_endBatch_24 rfl (lv_at hl 1 rfl) ?_
          refine lv_iload_n hx hb d_Model_endBatch_25 rfl (lv_at hl 0 rfl) ?_
          refine lv_bipush (v := 6) hx hb d_Model_endBatch_26 (by decide) ?_
          refine lv_iload_n hx hb d_Model_endBatch_28 rfl (lv_at hl 0 rfl) ?_
          refine lv_iadd hx hb d_Model_endBatch_29 ?_
          refine sy_ti (y := nI (6 + k)) (nI_add 6 k) ?_
          refine va_calli (sy_runV (As := [.int (nI k), .int (nI (6 + k))]) (rest := []) (b := ob) ⟨hx, hb, hml, hown, ht⟩ cl_Model_92 (c_Model_bring l G ob ad sc mI mL mZ k (6 + k) (by omega) (by omega)) hK ⟨hP, sy_any hD⟩ (va_recv hK.1 hP (ci := 7) (q0 := 0) rfl rfl) rfl nm_Model_bring rfl rfl ⟨Nat.le_of_ble_eq_true rfl, Nat.le_of_ble_eq_true rfl⟩ hl.1 (Nat.le_of_ble_eq_true rfl) d_Model_endBatch_30 ⟨Nat.zero_le _, Nat.zero_le _⟩) hS (fun q _ h => sy_in hD h) (fun q h => sy_in hD h) (fun r_4 u_5 t9 H locs ht9 hvm9 hw9 hB9 hz9 hk9 hS => ?_)
          obtain ⟨hr_4, hu_5⟩ := hw9
          subst hr_4
          subst hu_5
          rw [ht9] at hB9
          have hP : va_P G.1 classes (mw G.2 ob ad (mo_bring sc mI mL mZ k (6 + k)).2.1 (mo_bring sc mI mL mZ k (6 + k)).2.2.1 (mo_bring sc mI mL mZ k (6 + k)).2.2.2.1 (mo_bring sc mI mL mZ k (6 + k)).2.2.2.2) H := hB9
          have hD : va_D A (mw G.2 ob ad (mo_bring sc mI mL mZ k (6 + k)).2.1 (mo_bring sc mI mL mZ k (6 + k)).2.2.1 (mo_bring sc mI mL mZ k (6 + k)).2.2.2.1 (mo_bring sc mI mL mZ k (6 + k)).2.2.2.2) := sy_Da hD rfl
          refine lv_istore_n (lv' := [(3, .int (bI ((mo_bring sc mI mL mZ k (6 + k)).1))), (2, .int (nI k)), (0, .ref ob), (1, .int b)]) hx hb d_Model_endBatch_33 rfl hl (by decide) rfl (fun ls hl => ?_)
          refine lv_aload_n hx hb d_Model_endBatch_34 rfl (lv_at hl 2 rfl) ?_
          refine va_get (D := G.1) (ci := 7) (v := .ref (ad 14)) (C := R_Model) (T := F_Model) (N := 23) hx hb ht i_Model hown hK.1 hP 0 rfl rfl 19 (by decide) (ht _ m_524) (fun _ h9 => h9) rfl d_Model_endBatch_35 ?_
          refine lv_iload_n hx hb d_Model_endBatch_38 rfl (lv_at hl 1 rfl) ?_
          refine lv_iconst (v := (-1)) hx hb d_Model_endBatch_39 (by decide) ?_
          refine sy_iast hx hb hK.1 hP hD hS 15 0 rfl rfl (k := k) (by omega) (by decide) d_Model_endBatch_40 (fun H locs hP hD hS => ?_)
          rw [mw_s14] at hP hD
          refine lv_iconst (v := 1) hx hb d_Model_endBatch_41 (by decide) ?_
          exact W.zret (v := (1 : Int32)) hx hb hr (rfl) (fun t ht hW => ⟨⟨(1 : Int32), ((mo_bring sc mI mL mZ k (6 + k)).2.1, va_up ((mo_bring sc mI mL mZ k (6 + k)).2.2.1) 14 (upd ((mo_bring sc mI mL mZ k (6 + k)).2.2.1 14) k (-1 : Int32)), (mo_bring sc mI mL mZ k (6 + k)).2.2.2.1, (mo_bring sc mI mL mZ k (6 + k)).2.2.2.2), rfl, by first | (have e : k = sc 3 := (by omega); rw [e] at hI; constructor <;> simp [mo_end, hI, mo_ev, bI]; done) | (have e : nn_ff (mo_ep mI b) (sc 3) = some k := nn_ff_of (by omega) hI (by simp [mo_ep, c_1, c_1n, c_2, c_2n, c_3]; done); constructor <;> (rw [mo_end, e]; rfl)), by show va_P _ _ _ t.heap; rw [ht]; exact hP⟩, hS.F ht⟩) hS.2.2 d_Model_endBatch_42
  · exact ⟨Nat.zero_le _, rfl⟩
set_option maxHeartbeats 4000000 in
set_option maxRecDepth 100000 in
theorem c_Model_mark (l : Launch) (G : sy_G) (ob : Nat) (ad : Nat → Nat) (sc : Nat → Nat) (mI : Nat → Nat → Int32) (mL : Nat → Nat → Int64) (mZ : Nat → Nat → Bool) (d : Int32) (x : Int64) (y : Int64) (hd : sc 0 ≤ 4) (hm : ∀ d, d < 4 → ∃ j, j ≤ 10 ∧ mI 15 d = nI j) : Met l y_Model_mark (sy_w y_Model_mark b_Model_mark 7 (some .boolean)) { frames := 1, cells := 0, slots := 0, locals := 25 } (va_Pc [.ref ob, .int d, .long x, .long y] (sy_KP G (fun H => va_P G.1 classes (mw G.2 ob ad sc mI mL mZ) H ∧ va_D (fun _ => True) (mw G.2 ob ad sc mI mL mZ)))) (va_Qi (S := ms_S) (fun r u => r = bI (mo_mark sc mI mL mZ d x y).1 ∧ u = (mo_mark sc mI mL mZ d x y).2) (fun u t => va_P G.1 classes (mw G.2 ob ad u.1 u.2.1 u.2.2.1 u.2.2.2) t.heap) (sy_A (mw G.2 ob ad sc mI mL mZ))) 0 0 (sy_A (mw G.2 ob ad sc mI mL mZ)) := by
  refine Met.ofW (cc := b_Model_mark) (maxL := 7) (ret := (some .boolean)) (by decide) rfl ?_
  intro p e s m args below meth c s₁ B hml hv
  obtain ⟨rfl, ⟨hP, hD0⟩, hK⟩ := hv
  have hx := B.exec
  have hb := B.bytes
  have hr := B.returns
  have hts := atoms_spec (ws := sy_w y_Model_mark b_Model_mark 7 (some .boolean)) B.pre
  have ht : ∀ wd ∈ sy_T, wd.before ([.ref ob, .int d, .long x, .long y] : List Value).toArray s = true := fun wd h => hts wd (List.mem_cons_of_mem _ h)
  have hown : s.vm.findClass R_Model = some m.cls := findClass_of_methodNamed B.named
  have hlocks := B.notSynchronized
  have hD := sy_self hD0
  generalize hAe : sy_A (mw G.2 ob ad sc mI mL mZ) = A at hD ⊢
  have hS : va_S A s.heap s.heap [] := va_S.rf
  have hl := lv_entry ([.ref ob, .int d, .long x, .long y]) (n := 7) (Nat.le_of_ble_eq_true rfl)
  rw [lg_entry_eq]
  generalize (lg_sl ([.ref ob, .int d, .long x, .long y]) ++ List.replicate (7 - (lg_sl ([.ref ob, .int d, .long x, .long y])).length) Slot.unset).toArray = ls at hl ⊢
  have hl : lv_has ls 7 [(0, .ref ob), (1, .int d), (2, .long x), (4, .long y)] := hl
  refine lv_aload_n hx hb d_Model_mark_0 rfl (lv_at hl 0 rfl) ?_
  refine lv_iload_n hx hb d_Model_mark_1 rfl (lv_at hl 1 rfl) ?_
  refine vp_callSi (va_Run.run (sy_runV (As := [.int d]) (rest := []) (b := ob) ⟨hx, hb, hml, hown, ht⟩ cl_Model_73 (c_Model_isDevice l G ob ad sc mI mL mZ d (by omega)) hK hP (va_recv hK.1 hP (ci := 7) (q0 := 0) rfl rfl) rfl nm_Model_isDevice rfl rfl ⟨Nat.le_of_ble_eq_true rfl, Nat.le_of_ble_eq_true rfl⟩ hl.1 (Nat.le_of_ble_eq_true rfl) d_Model_mark_2 ⟨Nat.zero_le _, Nat.zero_le _⟩)) (fun r_1 hr_1 => ?_)
  subst hr_1
  refine lv_if_eq (tgt := 42) hx hb d_Model_mark_5 (by decide) (fun c_2 => ?_) (fun c_2 => ?_)
  · have c_2 : (mo_ok (sc 0) d) = false := bI_f c_2
    refine lv_iconst (v := 0) hx hb d_Model_mark_42 (by decide) ?_
    exact W.zret (v := (0 : Int32)) hx hb hr (rfl) (fun t ht hW => ⟨⟨(0 : Int32), (sc, mI, mL, mZ), rfl, by first | (rw [mo_mark_f (by simp [mo_mok, mo_mk, (show (nI 10).toNatClampNeg = 10 by decide), c_2]; done)]; exact ⟨rfl, rfl⟩) | (rw [mo_mark_t (by simp [mo_mok, mo_mk, c_2]; done)]; simp [emz, hcm, hczd, bI]; done), by show va_P _ _ _ t.heap; rw [ht]; exact hP⟩, hS.F ht⟩) hS.2.2 d_Model_mark_43
  · have c_2 : (mo_ok (sc 0) d) = true := bI_t c_2
    obtain ⟨zd, hzd, ezd⟩ := mo_ix (by omega) c_2
    subst ezd
    have hczd : (nI zd).toNatClampNeg = zd := nI_clamp (by omega)
    obtain ⟨mz, hmz, emz⟩ := hm zd (by omega)
    have hcm : (nI mz).toNatClampNeg = mz := nI_clamp (by omega)
    refine lv_lload_n hx hb d_Model_mark_8 rfl (lv_at hl 2 rfl) ?_
    refine lv_lconst (v := 0) hx hb d_Model_mark_9 (by decide) ?_
    refine lv_ldc2 (v := 1000000) hx hb hown (ht _ m_588) d_Model_mark_10 ?_
    refine vp_callSi (va_Run.run (sy_runS (As := [.long x, .long 0, .long 1000000]) (rest := []) ⟨hx, hb, hml, hown, ht⟩ cl_Model_79 (c_Model_isIn l G x (0 : Int64) (1000000 : Int64)) hK trivial rfl nm_Model_isIn rfl rfl ⟨Nat.le_of_ble_eq_true rfl, Nat.le_of_ble_eq_true rfl⟩ hl.1 (Nat.le_of_ble_eq_true rfl) d_Model_mark_13 ⟨Nat.zero_le _, Nat.zero_le _⟩)) (fun r_3 hr_3 => ?_)
    subst hr_3
    refine lv_if_eq (tgt := 42) hx hb d_Model_mark_16 (by decide) (fun c_4 => ?_) (fun c_4 => ?_)
    · have c_4 : (mo_in x (0 : Int64) (1000000 : Int64)) = false := bI_f c_4
      refine lv_iconst (v := 0) hx hb d_Model_mark_42 (by decide) ?_
      exact W.zret (v := (0 : Int32)) hx hb hr (rfl) (fun t ht hW => ⟨⟨(0 : Int32), (sc, mI, mL, mZ), rfl, by first | (rw [mo_mark_f (by simp [mo_mok, mo_mk, (show (nI 10).toNatClampNeg = 10 by decide), c_2, hczd, emz, hcm, c_4]; done)]; exact ⟨rfl, rfl⟩) | (rw [mo_mark_t (by simp [mo_mok, mo_mk, c_2, hczd, emz, hcm, c_4]; done)]; simp [emz, hcm, hczd, bI]; done), by show va_P _ _ _ t.heap; rw [ht]; exact hP⟩, hS.F ht⟩) hS.2.2 d_Model_mark_43
    · have c_4 : (mo_in x (0 : Int64) (1000000 : Int64)) = true := bI_t c_4
      refine lv_lload hx hb d_Model_mark_19 (lv_at hl 3 rfl) ?_
      refine lv_lconst (v := 0) hx hb d_Model_mark_21 (by decide) ?_
      refine lv_ldc2 (v := 1000000) hx hb hown (ht _ m_588) d_Model_mark_22 ?_
      refine vp_callSi (va_Run.run (sy_runS (As := [.long y, .long 0, .long 1000000]) (rest := []) ⟨hx, hb, hml, hown, ht⟩ cl_Model_79 (c_Model_isIn l G y (0 : Int64) (1000000 : Int64)) hK trivial rfl nm_Model_isIn rfl rfl ⟨Nat.le_of_ble_eq_true rfl, Nat.le_of_ble_eq_true rfl⟩ hl.1 (Nat.le_of_ble_eq_true rfl) d_Model_mark_25 ⟨Nat.zero_le _, Nat.zero_le _⟩)) (fun r_5 hr_5 => ?_)
      subst hr_5
      refine lv_if_eq (tgt := 42) hx hb d_Model_mark_28 (by decide) (fun c_6 => ?_) (fun c_6 => ?_)
      · have c_6 : (mo_in y (0 : Int64) (1000000 : Int64)) = false := bI_f c_6
        refine lv_iconst (v := 0) hx hb d_Model_mark_42 (by decide) ?_
        exact W.zret (v := (0 : Int32)) hx hb hr (rfl) (fun t ht hW => ⟨⟨(0 : Int32), (sc, mI, mL, mZ), rfl, by first | (rw [mo_mark_f (by simp [mo_mok, mo_mk, (show (nI 10).toNatClampNeg = 10 by decide), c_2, hczd, emz, hcm, c_4, c_6]; done)]; exact ⟨rfl, rfl⟩) | (rw [mo_mark_t (by simp [mo_mok, mo_mk, c_2, hczd, emz, hcm, c_4, c_6]; done)]; simp [emz, hcm, hczd, bI]; done), by show va_P _ _ _ t.heap; rw [ht]; exact hP⟩, hS.F ht⟩) hS.2.2 d_Model_mark_43
      · have c_6 : (mo_in y (0 : Int64) (1000000 : Int64)) = true := bI_t c_6
        refine lv_aload_n hx hb d_Model_mark_31 rfl (lv_at hl 0 rfl) ?_
        refine va_get (D := G.1) (ci := 7) (v := .ref (ad 15)) (C := R_Model) (T := F_Model) (N := 23) hx hb ht i_Model hown hK.1 hP 0 rfl rfl 20 (by decide) (ht _ m_525) (fun _ h9 => h9) rfl d_Model_mark_32 ?_
        refine lv_iload_n hx hb d_Model_mark_35 rfl (lv_at hl 1 rfl) ?_
        refine sy_iald hx hb hK.1 hP 16 0 rfl rfl (k := zd) (by omega) (by decide) d_Model_mark_36 ?_
        refine sy_ti (y := nI mz) emz ?_
        refine lv_bipush (v := 10) hx hb d_Model_mark_37 (by decide) ?_
        refine lv_icmp_ne (tgt := 44) hx hb d_Model_mark_39 (by decide) (fun c_7 => ?_) (fun c_7 => ?_)
        · have c_7 : ¬ mz = 10 := fun h9 => c_7 ((nI_eq (a := mz) (b := 10) (by omega) (by omega)).mpr h9)
          refine lv_bipush (v := 10) hx hb d_Model_mark_44 (by decide) ?_
          refine lv_iload_n hx hb d_Model_mark_46 rfl (lv_at hl 1 rfl) ?_
          refine lv_imul hx hb d_Model_mark_47 ?_
          refine sy_ti (y := nI (10 * zd)) (pk_mul 10 zd) ?_
          refine lv_aload_n hx hb d_Model_mark_48 rfl (lv_at hl 0 rfl) ?_
          refine va_get (D := G.1) (ci := 7) (v := .ref (ad 15)) (C := R_Model) (T := F_Model) (N := 23) hx hb ht i_Model hown hK.1 hP 0 rfl rfl 20 (by decide) (ht _ m_525) (fun _ h9 => h9) rfl d_Model_mark_49 ?_
          refine lv_iload_n hx hb d_Model_mark_52 rfl (lv_at hl 1 rfl) ?_
          refine sy_iald hx hb hK.1 hP 16 0 rfl rfl (k := zd) (by omega) (by decide) d_Model_mark_53 ?_
          refine sy_ti (y := nI mz) emz ?_
          refine lv_iadd hx hb d_Model_mark_54 ?_
          refine sy_ti (y := nI ((10 * zd) + mz)) (nI_add (10 * zd) mz) ?_
          refine lv_istore (lv' := [(6, .int (nI ((10 * zd) + mz))), (0, .ref ob), (1, .int (nI zd)), (2, .long x), (4, .long y)]) hx hb d_Model_mark_55 hl (by decide) rfl (fun ls hl => ?_)
          refine lv_aload_n hx hb d_Model_mark_57 rfl (lv_at hl 1 rfl) ?_
          refine va_get (D := G.1) (ci := 7) (v := .ref (ad 15)) (C := R_Model) (T := F_Model) (N := 23) hx hb ht i_Model hown hK.1 hP 0 rfl rfl 20 (by decide) (ht _ m_525) (fun _ h9 => h9) rfl d_Model_mark_58 ?_
          refine lv_iload_n hx hb d_Model_mark_61 rfl (lv_at hl 2 rfl) ?_
          refine sy_iald hx hb hK.1 hP 16 0 rfl rfl (k := zd) (by omega) (by decide) d_Model_mark_62 ?_
          refine sy_ti (y := nI mz) emz ?_
          refine lv_if_le (tgt := 99) hx hb d_Model_mark_63 (by decide) (fun c_8 => ?_) (fun c_8 => ?_)
          · have c_8 : mz ≤ 0 := (nI_leI (by omega) (by omega)).mp (by rw [nI_0]; exact c_8)
            have c_8n : ¬ 0 < mz := by omega
            refine lv_aload_n hx hb d_Model_mark_99 rfl (lv_at hl 1 rfl) ?_
            refine va_get (D := G.1) (ci := 7) (v := .ref (ad 16)) (C := R_Model) (T := F_Model) (N := 23) hx hb ht i_Model hown hK.1 hP 0 rfl rfl 21 (by decide) (ht _ m_526) (fun _ h9 => h9) rfl d_Model_mark_100 ?_
            refine lv_iload hx hb d_Model_mark_103 (lv_at hl 0 rfl) ?_
            refine lv_lload_n hx hb d_Model_mark_105 rfl (lv_at hl 3 rfl) ?_
            refine lv_l2i (v := x.toInt32) hx hb d_Model_mark_106 rfl ?_
            refine sy_iast hx hb hK.1 hP hD hS 17 0 rfl rfl (k := (10 * zd) + mz) (by omega) (by decide) d_Model_mark_107 (fun H locs hP hD hS => ?_)
            rw [mw_s16] at hP hD
            refine lv_aload_n hx hb d_Model_mark_108 rfl (lv_at hl 1 rfl) ?_
            refine va_get (D := G.1) (ci := 7) (v := .ref (ad 17)) (C := R_Model) (T := F_Model) (N := 23) hx hb ht i_Model hown hK.1 hP 0 rfl rfl 22 (by decide) (ht _ m_527) (fun _ h9 => h9) rfl d_Model_mark_109 ?_
            refine lv_iload hx hb d_Model_mark_112 (lv_at hl 0 rfl) ?_
            refine lv_lload hx hb d_Model_mark_114 (lv_at hl 4 rfl) ?_
            refine lv_l2i (v := y.toInt32) hx hb d_Model_mark_116 rfl ?_
            refine sy_iast hx hb hK.1 hP hD hS 18 0 rfl rfl (k := (10 * zd) + mz) (by omega) (by decide) d_Model_mark_117 (fun H locs hP hD hS => ?_)
            rw [show (va_up mI 16 (upd (mI 16) ((10 * zd) + mz) x.toInt32)) 17 = mI 17 from rfl, mw_s17] at hP hD
            refine lv_aload_n hx hb d_Model_mark_118 rfl (lv_at hl 1 rfl) ?_
            refine va_get (D := G.1) (ci := 7) (v := .ref (ad 15)) (C := R_Model) (T := F_Model) (N := 23) hx hb ht i_Model hown hK.1 hP 0 rfl rfl 20 (by decide) (ht _ m_525) (fun _ h9 => h9) rfl d_Model_mark_119 ?_
            refine lv_iload_n hx hb d_Model_mark_122 rfl (lv_at hl 2 rfl) ?_
            refine lv_dup2_11 hx hb d_Model_mark_123 rfl rfl ?_
            refine sy_iald hx hb hK.1 hP 16 0 rfl rfl (k := zd) (by omega) (by decide) d_Model_mark_124 ?_
            refine sy_ti (y := nI mz) (by show mI 15 zd = _; exact emz) ?_
            refine lv_iconst (v := 1) hx hb d_Model_mark_125 (by decide) ?_
            refine lv_iadd hx hb d_Model_mark_126 ?_
            refine sy_ti (y := nI (mz + 1)) (nI_add mz 1) ?_
            refine sy_iast hx hb hK.1 hP hD hS 16 0 rfl rfl (k := zd) (by omega) (by decide) d_Model_mark_127 (fun H locs hP hD hS => ?_)
            rw [show (va_up (va_up mI 16 (upd (mI 16) ((10 * zd) + mz) x.toInt32)) 17 (upd (mI 17) ((10 * zd) + mz) y.toInt32)) 15 = mI 15 from rfl, mw_s15] at hP hD
            refine lv_iconst (v := 1) hx hb d_Model_mark_128 (by decide) ?_
            exact W.zret (v := (1 : Int32)) hx hb hr (rfl) (fun t ht hW => ⟨⟨(1 : Int32), (sc, va_up (va_up (va_up mI 16 (upd (mI 16) ((10 * zd) + mz) x.toInt32)) 17 (upd (mI 17) ((10 * zd) + mz) y.toInt32)) 15 (upd (mI 15) zd (nI (mz + 1))), mL, mZ), rfl, by first | (rw [mo_mark_f (by simp [mo_mok, mo_mk, (show (nI 10).toNatClampNeg = 10 by decide), c_2, hczd, emz, hcm, c_4, c_6, c_7, c_8, c_8n]; done)]; exact ⟨rfl, rfl⟩) | (rw [mo_mark_t (by simp [mo_mok, mo_mk, c_2, hczd, emz, hcm, c_4, c_6, c_7, c_8, c_8n]; done)]; simp [emz, hcm, hczd, bI]; done), by show va_P _ _ _ t.heap; rw [ht]; exact hP⟩, hS.F ht⟩) hS.2.2 d_Model_mark_129
          · have c_8 : ¬ mz ≤ 0 := fun h9 => c_8 (by rw [← nI_0]; exact (nI_leI (by omega) (by omega)).mpr h9)
            have c_8n : 0 < mz := by omega
            refine lv_lload_n hx hb d_Model_mark_66 rfl (lv_at hl 3 rfl) ?_
            refine lv_aload_n hx hb d_Model_mark_67 rfl (lv_at hl 1 rfl) ?_
            refine va_get (D := G.1) (ci := 7) (v := .ref (ad 16)) (C := R_Model) (T := F_Model) (N := 23) hx hb ht i_Model hown hK.1 hP 0 rfl rfl 21 (by decide) (ht _ m_526) (fun _ h9 => h9) rfl d_Model_mark_68 ?_
            refine lv_iload hx hb d_Model_mark_71 (lv_at hl 0 rfl) ?_
            refine lv_iconst (v := 1) hx hb d_Model_mark_73 (by decide) ?_
            refine lv_isub hx hb d_Model_mark_74 ?_
            refine sy_ti (y := nI (((10 * zd) + mz) - 1)) (pk_sub (a := (10 * zd) + mz) (b := 1) (by omega)) ?_
            refine sy_iald hx hb hK.1 hP 17 0 rfl rfl (k := ((10 * zd) + mz) - 1) (by omega) (by decide) d_Model_mark_75 ?_
            refine lv_i2l (v := (mI 16 (((10 * zd) + mz) - 1)).toInt64) hx hb d_Model_mark_76 rfl ?_
            refine sy_lc_le (tgt := 97) hx hb d_Model_mark_77 d_Model_mark_78 (by decide) (fun c_9 => ?_) (fun c_9 => ?_)
            · have c_9n := sy_c64 c_9
              refine lv_iconst (v := 0) hx hb d_Model_mark_97 (by decide) ?_
              exact W.zret (v := (0 : Int32)) hx hb hr (rfl) (fun t ht hW => ⟨⟨(0 : Int32), (sc, mI, mL, mZ), rfl, by first | (rw [mo_mark_f (by simp [mo_mok, mo_mk, (show (nI 10).toNatClampNeg = 10 by decide), c_2, hczd, emz, hcm, c_4, c_6, c_7, c_8, c_8n, c_9, c_9n]; done)]; exact ⟨rfl, rfl⟩) | (rw [mo_mark_t (by simp [mo_mok, mo_mk, c_2, hczd, emz, hcm, c_4, c_6, c_7, c_8, c_8n, c_9, c_9n]; done)]; simp [emz, hcm, hczd, bI]; done), by show va_P _ _ _ t.heap; rw [ht]; exact hP⟩, hS.F ht⟩) hS.2.2 d_Model_mark_98
            · have c_9n := sy_d64 c_9
              refine lv_lload hx hb d_Model_mark_81 (lv_at hl 4 rfl) ?_
              refine lv_aload_n hx hb d_Model_mark_83 rfl (lv_at hl 1 rfl) ?_
              refine va_get (D := G.1) (ci := 7) (v := .ref (ad 17)) (C := R_Model) (T := F_Model) (N := 23) hx hb ht i_Model hown hK.1 hP 0 rfl rfl 22 (by decide) (ht _ m_527) (fun _ h9 => h9) rfl d_Model_mark_84 ?_
              refine lv_iload hx hb d_Model_mark_87 (lv_at hl 0 rfl) ?_
              refine lv_iconst (v := 1) hx hb d_Model_mark_89 (by decide) ?_
              refine lv_isub hx hb d_Model_mark_90 ?_
              refine sy_ti (y := nI (((10 * zd) + mz) - 1)) (pk_sub (a := (10 * zd) + mz) (b := 1) (by omega)) ?_
              refine sy_iald hx hb hK.1 hP 18 0 rfl rfl (k := ((10 * zd) + mz) - 1) (by omega) (by decide) d_Model_mark_91 ?_
              refine lv_i2l (v := (mI 17 (((10 * zd) + mz) - 1)).toInt64) hx hb d_Model_mark_92 rfl ?_
              refine sy_lc_ge (tgt := 99) hx hb d_Model_mark_93 d_Model_mark_94 (by decide) (fun c_10 => ?_) (fun c_10 => ?_)
              · have c_10n := sy_c64 c_10
                refine lv_aload_n hx hb d_Model_mark_99 rfl (lv_at hl 1 rfl) ?_
                refine va_get (D := G.1) (ci := 7) (v := .ref (ad 16)) (C := R_Model) (T := F_Model) (N := 23) hx hb ht i_Model hown hK.1 hP 0 rfl rfl 21 (by decide) (ht _ m_526) (fun _ h9 => h9) rfl d_Model_mark_100 ?_
                refine lv_iload hx hb d_Model_mark_103 (lv_at hl 0 rfl) ?_
                refine lv_lload_n hx hb d_Model_mark_105 rfl (lv_at hl 3 rfl) ?_
                refine lv_l2i (v := x.toInt32) hx hb d_Model_mark_106 rfl ?_
                refine sy_iast hx hb hK.1 hP hD hS 17 0 rfl rfl (k := (10 * zd) + mz) (by omega) (by decide) d_Model_mark_107 (fun H locs hP hD hS => ?_)
                rw [mw_s16] at hP hD
                refine lv_aload_n hx hb d_Model_mark_108 rfl (lv_at hl 1 rfl) ?_
                refine va_get (D := G.1) (ci := 7) (v := .ref (ad 17)) (C := R_Model) (T := F_Model) (N := 23) hx hb ht i_Model hown hK.1 hP 0 rfl rfl 22 (by decide) (ht _ m_527) (fun _ h9 => h9) rfl d_Model_mark_109 ?_
                refine lv_iload hx hb d_Model_mark_112 (lv_at hl 0 rfl) ?_
                refine lv_lload hx hb d_Model_mark_114 (lv_at hl 4 rfl) ?_
                refine lv_l2i (v := y.toInt32) hx hb d_Model_mark_116 rfl ?_
                refine sy_iast hx hb hK.1 hP hD hS 18 0 rfl rfl (k := (10 * zd) + mz) (by omega) (by decide) d_Model_mark_117 (fun H locs hP hD hS => ?_)
                rw [show (va_up mI 16 (upd (mI 16) ((10 * zd) + mz) x.toInt32)) 17 = mI 17 from rfl, mw_s17] at hP hD
                refine lv_aload_n hx hb d_Model_mark_118 rfl (lv_at hl 1 rfl) ?_
                refine va_get (D := G.1) (ci := 7) (v := .ref (ad 15)) (C := R_Model) (T := F_Model) (N := 23) hx hb ht i_Model hown hK.1 hP 0 rfl rfl 20 (by decide) (ht _ m_525) (fun _ h9 => h9) rfl d_Model_mark_119 ?_
                refine lv_iload_n hx hb d_Model_mark_122 rfl (lv_at hl 2 rfl) ?_
                refine lv_dup2_11 hx hb d_Model_mark_123 rfl rfl ?_
                refine sy_iald hx hb hK.1 hP 16 0 rfl rfl (k := zd) (by omega) (by decide) d_Model_mark_124 ?_
                refine sy_ti (y := nI mz) (by show mI 15 zd = _; exact emz) ?_
                refine lv_iconst (v := 1) hx hb d_Model_mark_125 (by decide) ?_
                refine lv_iadd hx hb d_Model_mark_126 ?_
                refine sy_ti (y := nI (mz + 1)) (nI_add mz 1) ?_
                refine sy_iast hx hb hK.1 hP hD hS 16 0 rfl rfl (k := zd) (by omega) (by decide) d_Model_mark_127 (fun H locs hP hD hS => ?_)
                rw [show (va_up (va_up mI 16 (upd (mI 16) ((10 * zd) + mz) x.toInt32)) 17 (upd (mI 17) ((10 * zd) + mz) y.toInt32)) 15 = mI 15 from rfl, mw_s15] at hP hD
                refine lv_iconst (v := 1) hx hb d_Model_mark_128 (by decide) ?_
                exact W.zret (v := (1 : Int32)) hx hb hr (rfl) (fun t ht hW => ⟨⟨(1 : Int32), (sc, va_up (va_up (va_up mI 16 (upd (mI 16) ((10 * zd) + mz) x.toInt32)) 17 (upd (mI 17) ((10 * zd) + mz) y.toInt32)) 15 (upd (mI 15) zd (nI (mz + 1))), mL, mZ), rfl, by first | (rw [mo_mark_f (by simp [mo_mok, mo_mk, (show (nI 10).toNatClampNeg = 10 by decide), c_2, hczd, emz, hcm, c_4, c_6, c_7, c_8, c_8n, c_9, c_9n, c_10, c_10n]; done)]; exact ⟨rfl, rfl⟩) | (rw [mo_mark_t (by simp [mo_mok, mo_mk, c_2, hczd, emz, hcm, c_4, c_6, c_7, c_8, c_8n, c_9, c_9n, c_10, c_10n]; done)]; simp [emz, hcm, hczd, bI]; done), by show va_P _ _ _ t.heap; rw [ht]; exact hP⟩, hS.F ht⟩) hS.2.2 d_Model_mark_129
              · have c_10n := sy_d64 c_10
                refine lv_iconst (v := 0) hx hb d_Model_mark_97 (by decide) ?_
                exact W.zret (v := (0 : Int32)) hx hb hr (rfl) (fun t ht hW => ⟨⟨(0 : Int32), (sc, mI, mL, mZ), rfl, by first | (rw [mo_mark_f (by simp [mo_mok, mo_mk, (show (nI 10).toNatClampNeg = 10 by decide), c_2, hczd, emz, hcm, c_4, c_6, c_7, c_8, c_8n, c_9, c_9n, c_10, c_10n]; done)]; exact ⟨rfl, rfl⟩) | (rw [mo_mark_t (by simp [mo_mok, mo_mk, c_2, hczd, emz, hcm, c_4, c_6, c_7, c_8, c_8n, c_9, c_9n, c_10, c_10n]; done)]; simp [emz, hcm, hczd, bI]; done), by show va_P _ _ _ t.heap; rw [ht]; exact hP⟩, hS.F ht⟩) hS.2.2 d_Model_mark_98
        · have c_7 : mz = 10 := (nI_eq (a := mz) (b := 10) (by omega) (by omega)).mp c_7
          refine lv_iconst (v := 0) hx hb d_Model_mark_42 (by decide) ?_
          exact W.zret (v := (0 : Int32)) hx hb hr (rfl) (fun t ht hW => ⟨⟨(0 : Int32), (sc, mI, mL, mZ), rfl, by first | (rw [mo_mark_f (by simp [mo_mok, mo_mk, (show (nI 10).toNatClampNeg = 10 by decide), c_2, hczd, emz, hcm, c_4, c_6, c_7]; done)]; exact ⟨rfl, rfl⟩) | (rw [mo_mark_t (by simp [mo_mok, mo_mk, c_2, hczd, emz, hcm, c_4, c_6, c_7]; done)]; simp [emz, hcm, hczd, bI]; done), by show va_P _ _ _ t.heap; rw [ht]; exact hP⟩, hS.F ht⟩) hS.2.2 d_Model_mark_43
