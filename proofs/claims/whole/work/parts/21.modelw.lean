set_option maxHeartbeats 4000000 in
set_option maxRecDepth 100000 in
theorem c_Model_device (l : Launch) (G : sy_G) (ob : Nat) (ad : Nat → Nat) (sc : Nat → Nat) (mI : Nat → Nat → Int32) (mL : Nat → Nat → Int64) (mZ : Nat → Nat → Bool) (hd : sc 0 ≤ 4) : Met l y_Model_device (sy_w y_Model_device b_Model_device 1 (some .int)) { frames := 0, cells := 0, slots := 0, locals := 0 } (va_Pc [.ref ob] (sy_KP G (fun H => va_P G.1 classes (mw G.2 ob ad sc mI mL mZ) H ∧ va_D (fun _ => True) (mw G.2 ob ad sc mI mL mZ)))) (va_Qi (S := ms_S) (fun r u => r = (mo_device sc mI mL mZ).1 ∧ u = (mo_device sc mI mL mZ).2) (fun u t => va_P G.1 classes (mw G.2 ob ad u.1 u.2.1 u.2.2.1 u.2.2.2) t.heap) (sy_A (mw G.2 ob ad sc mI mL mZ))) 0 0 (sy_A (mw G.2 ob ad sc mI mL mZ)) := by
  refine Met.ofW (cc := b_Model_device) (maxL := 1) (ret := (some .int)) (by decide) rfl ?_
  intro p e s m args below meth c s₁ B hml hv
  obtain ⟨rfl, ⟨hP, hD0⟩, hK⟩ := hv
  have hx := B.exec
  have hb := B.bytes
  have hr := B.returns
  have hts := atoms_spec (ws := sy_w y_Model_device b_Model_device 1 (some .int)) B.pre
  have ht : ∀ wd ∈ sy_T, wd.before ([.ref ob] : List Value).toArray s = true := fun wd h => hts wd (List.mem_cons_of_mem _ h)
  have hown : s.vm.findClass R_Model = some m.cls := findClass_of_methodNamed B.named
  have hlocks := B.notSynchronized
  have hD := sy_self hD0
  generalize hAe : sy_A (mw G.2 ob ad sc mI mL mZ) = A at hD ⊢
  have hS : va_S A s.heap s.heap [] := va_S.rf
  have hl := lv_entry ([.ref ob]) (n := 1) (Nat.le_of_ble_eq_true rfl)
  rw [lg_entry_eq]
  generalize (lg_sl ([.ref ob]) ++ List.replicate (1 - (lg_sl ([.ref ob])).length) Slot.unset).toArray = ls at hl ⊢
  have hl : lv_has ls 1 [(0, .ref ob)] := hl
  refine lv_aload_n hx hb d_Model_device_0 rfl (lv_at hl 0 rfl) ?_
  refine va_get (D := G.1) (ci := 7) (v := .int (nI (sc 0))) (C := R_Model) (T := F_Model) (N := 23) hx hb ht i_Model hown hK.1 hP 0 rfl rfl 0 (by decide) (ht _ m_505) (fun _ h9 => h9) rfl d_Model_device_1 ?_
  refine lv_iconst (v := 4) hx hb d_Model_device_4 (by decide) ?_
  refine lv_icmp_ne (tgt := 10) hx hb d_Model_device_5 (by decide) (fun c_1 => ?_) (fun c_1 => ?_)
  · have c_1 : ¬ (sc 0) = 4 := fun h9 => c_1 ((nI_eq (a := sc 0) (b := 4) (by omega) (by omega)).mpr h9)
    refine lv_aload_n hx hb d_Model_device_10 rfl (lv_at hl 0 rfl) ?_
    refine lv_dup hx hb d_Model_device_11 rfl ?_
    refine va_get (D := G.1) (ci := 7) (v := .int (nI (sc 0))) (C := R_Model) (T := F_Model) (N := 23) hx hb ht i_Model hown hK.1 hP 0 rfl rfl 0 (by decide) (ht _ m_505) (fun _ h9 => h9) rfl d_Model_device_12 ?_
    refine lv_iconst (v := 1) hx hb d_Model_device_15 (by decide) ?_
    refine lv_iadd hx hb d_Model_device_16 ?_
    refine sy_ti (y := nI ((sc 0) + 1)) (nI_add (sc 0) 1) ?_
    refine va_put (D := G.1) (ci := 7) (v := .int (nI ((sc 0) + 1))) (ty := .int) (C := R_Model) (T := F_Model) (N := 23) hx hb ht i_Model t_Model t_Model_ok n_Model hown hK.1 hP hD hS 0 rfl rfl 0 (by decide) (ht _ m_505) (fun _ h9 => h9) rfl (by decide +kernel) rfl rfl (Nat.le_of_ble_eq_true rfl) d_Model_device_17 (fun H locs hP hD hS => ?_)
    have hP : va_P G.1 classes (mw G.2 ob ad (va_up sc 0 ((sc 0) + 1)) mI mL mZ) H := hP
    have hD : va_D A (mw G.2 ob ad (va_up sc 0 ((sc 0) + 1)) mI mL mZ) := hD
    refine lv_aload_n hx hb d_Model_device_20 rfl (lv_at hl 0 rfl) ?_
    refine va_get (D := G.1) (ci := 7) (v := .int (nI ((sc 0) + 1))) (C := R_Model) (T := F_Model) (N := 23) hx hb ht i_Model hown hK.1 hP 0 rfl rfl 0 (by decide) (ht _ m_505) (fun _ h9 => h9) rfl d_Model_device_21 ?_
    refine lv_iconst (v := 1) hx hb d_Model_device_24 (by decide) ?_
    refine lv_isub hx hb d_Model_device_25 ?_
    refine sy_ti (y := nI (((sc 0) + 1) - 1)) (pk_sub (a := (sc 0) + 1) (b := 1) (by omega)) ?_
    exact W.iret (v := nI (((sc 0) + 1) - 1)) hx hb hr (fun t ht hW => ⟨⟨nI (((sc 0) + 1) - 1), (va_up sc 0 ((sc 0) + 1), mI, mL, mZ), rfl, by constructor <;> simp [mo_device, c_1], by show va_P _ _ _ t.heap; rw [ht]; exact hP⟩, hS.F ht⟩) hS.2.2 d_Model_device_26
  · have c_1 : (sc 0) = 4 := (nI_eq (a := sc 0) (b := 4) (by omega) (by omega)).mp c_1
    refine lv_iconst (v := (-1)) hx hb d_Model_device_8 (by decide) ?_
    exact W.iret (v := (-1 : Int32)) hx hb hr (fun t ht hW => ⟨⟨(-1 : Int32), (sc, mI, mL, mZ), rfl, by constructor <;> simp [mo_device, c_1], by show va_P _ _ _ t.heap; rw [ht]; exact hP⟩, hS.F ht⟩) hS.2.2 d_Model_device_9
set_option maxHeartbeats 4000000 in
set_option maxRecDepth 100000 in
theorem c_Model_reset (l : Launch) (G : sy_G) (ob : Nat) (ad : Nat → Nat) (sc : Nat → Nat) (mI : Nat → Nat → Int32) (mL : Nat → Nat → Int64) (mZ : Nat → Nat → Bool) (d : Int32) (x : Int64) (hd : sc 0 ≤ 4) : Met l y_Model_reset (sy_w y_Model_reset b_Model_reset 4 (some .boolean)) { frames := 1, cells := 0, slots := 0, locals := 25 } (va_Pc [.ref ob, .int d, .long x] (sy_KP G (fun H => va_P G.1 classes (mw G.2 ob ad sc mI mL mZ) H ∧ va_D (fun _ => True) (mw G.2 ob ad sc mI mL mZ)))) (va_Qi (S := ms_S) (fun r u => r = bI (mo_reset sc mI mL mZ d x).1 ∧ u = (mo_reset sc mI mL mZ d x).2) (fun u t => va_P G.1 classes (mw G.2 ob ad u.1 u.2.1 u.2.2.1 u.2.2.2) t.heap) (sy_A (mw G.2 ob ad sc mI mL mZ))) 0 0 (sy_A (mw G.2 ob ad sc mI mL mZ)) := by
  refine Met.ofW (cc := b_Model_reset) (maxL := 4) (ret := (some .boolean)) (by decide) rfl ?_
  intro p e s m args below meth c s₁ B hml hv
  obtain ⟨rfl, ⟨hP, hD0⟩, hK⟩ := hv
  have hx := B.exec
  have hb := B.bytes
  have hr := B.returns
  have hts := atoms_spec (ws := sy_w y_Model_reset b_Model_reset 4 (some .boolean)) B.pre
  have ht : ∀ wd ∈ sy_T, wd.before ([.ref ob, .int d, .long x] : List Value).toArray s = true := fun wd h => hts wd (List.mem_cons_of_mem _ h)
  have hown : s.vm.findClass R_Model = some m.cls := findClass_of_methodNamed B.named
  have hlocks := B.notSynchronized
  have hD := sy_self hD0
  generalize hAe : sy_A (mw G.2 ob ad sc mI mL mZ) = A at hD ⊢
  have hS : va_S A s.heap s.heap [] := va_S.rf
  have hl := lv_entry ([.ref ob, .int d, .long x]) (n := 4) (Nat.le_of_ble_eq_true rfl)
  rw [lg_entry_eq]
  generalize (lg_sl ([.ref ob, .int d, .long x]) ++ List.replicate (4 - (lg_sl ([.ref ob, .int d, .long x])).length) Slot.unset).toArray = ls at hl ⊢
  have hl : lv_has ls 4 [(0, .ref ob), (1, .int d), (2, .long x)] := hl
  refine lv_aload_n hx hb d_Model_reset_0 rfl (lv_at hl 0 rfl) ?_
  refine lv_iload_n hx hb d_Model_reset_1 rfl (lv_at hl 1 rfl) ?_
  refine vp_callSi (va_Run.run (sy_runV (As := [.int d]) (rest := []) (b := ob) ⟨hx, hb, hml, hown, ht⟩ cl_Model_73 (c_Model_isDevice l G ob ad sc mI mL mZ d (by omega)) hK hP (va_recv hK.1 hP (ci := 7) (q0 := 0) rfl rfl) rfl nm_Model_isDevice rfl rfl ⟨Nat.le_of_ble_eq_true rfl, Nat.le_of_ble_eq_true rfl⟩ hl.1 (Nat.le_of_ble_eq_true rfl) d_Model_reset_2 ⟨Nat.zero_le _, Nat.zero_le _⟩)) (fun r_1 hr_1 => ?_)
  subst hr_1
  refine lv_if_eq (tgt := 30) hx hb d_Model_reset_5 (by decide) (fun c_2 => ?_) (fun c_2 => ?_)
  · have c_2 : (mo_ok (sc 0) d) = false := bI_f c_2
    refine lv_iconst (v := 0) hx hb d_Model_reset_30 (by decide) ?_
    exact W.zret (v := (0 : Int32)) hx hb hr (rfl) (fun t ht hW => ⟨⟨(0 : Int32), (sc, mI, mL, mZ), rfl, by constructor <;> simp [mo_reset, bI, c_2], by show va_P _ _ _ t.heap; rw [ht]; exact hP⟩, hS.F ht⟩) hS.2.2 d_Model_reset_31
  · have c_2 : (mo_ok (sc 0) d) = true := bI_t c_2
    obtain ⟨zd, hzd, ezd⟩ := mo_ix (by omega) c_2
    subst ezd
    have hczd : (nI zd).toNatClampNeg = zd := nI_clamp (by omega)
    refine lv_lload_n hx hb d_Model_reset_8 rfl (lv_at hl 2 rfl) ?_
    refine lv_lconst (v := 0) hx hb d_Model_reset_9 (by decide) ?_
    refine lv_ldc2 (v := 1000000) hx hb hown (ht _ m_588) d_Model_reset_10 ?_
    refine vp_callSi (va_Run.run (sy_runS (As := [.long x, .long 0, .long 1000000]) (rest := []) ⟨hx, hb, hml, hown, ht⟩ cl_Model_79 (c_Model_isIn l G x (0 : Int64) (1000000 : Int64)) hK trivial rfl nm_Model_isIn rfl rfl ⟨Nat.le_of_ble_eq_true rfl, Nat.le_of_ble_eq_true rfl⟩ hl.1 (Nat.le_of_ble_eq_true rfl) d_Model_reset_13 ⟨Nat.zero_le _, Nat.zero_le _⟩)) (fun r_3 hr_3 => ?_)
    subst hr_3
    refine lv_if_eq (tgt := 30) hx hb d_Model_reset_16 (by decide) (fun c_4 => ?_) (fun c_4 => ?_)
    · have c_4 : (mo_in x (0 : Int64) (1000000 : Int64)) = false := bI_f c_4
      refine lv_iconst (v := 0) hx hb d_Model_reset_30 (by decide) ?_
      exact W.zret (v := (0 : Int32)) hx hb hr (rfl) (fun t ht hW => ⟨⟨(0 : Int32), (sc, mI, mL, mZ), rfl, by constructor <;> simp [mo_reset, bI, c_2, hczd, c_4], by show va_P _ _ _ t.heap; rw [ht]; exact hP⟩, hS.F ht⟩) hS.2.2 d_Model_reset_31
    · have c_4 : (mo_in x (0 : Int64) (1000000 : Int64)) = true := bI_t c_4
      refine lv_aload_n hx hb d_Model_reset_19 rfl (lv_at hl 0 rfl) ?_
      refine va_get (D := G.1) (ci := 7) (v := .ref (ad 0)) (C := R_Model) (T := F_Model) (N := 23) hx hb ht i_Model hown hK.1 hP 0 rfl rfl 1 (by decide) (ht _ m_506) (fun _ h9 => h9) rfl d_Model_reset_20 ?_
      refine lv_iload_n hx hb d_Model_reset_23 rfl (lv_at hl 1 rfl) ?_
      refine sy_iald hx hb hK.1 hP 1 0 rfl rfl (k := zd) (by omega) (by decide) d_Model_reset_24 ?_
      refine lv_bipush (v := 99) hx hb d_Model_reset_25 (by decide) ?_
      refine lv_icmp_ne (tgt := 32) hx hb d_Model_reset_27 (by decide) (fun c_5 => ?_) (fun c_5 => ?_)
      · refine lv_aload_n hx hb d_Model_reset_32 rfl (lv_at hl 0 rfl) ?_
        refine va_get (D := G.1) (ci := 7) (v := .ref (ad 0)) (C := R_Model) (T := F_Model) (N := 23) hx hb ht i_Model hown hK.1 hP 0 rfl rfl 1 (by decide) (ht _ m_506) (fun _ h9 => h9) rfl d_Model_reset_33 ?_
        refine lv_iload_n hx hb d_Model_reset_36 rfl (lv_at hl 1 rfl) ?_
        refine lv_dup2_11 hx hb d_Model_reset_37 rfl rfl ?_
        refine sy_iald hx hb hK.1 hP 1 0 rfl rfl (k := zd) (by omega) (by decide) d_Model_reset_38 ?_
        refine lv_iconst (v := 1) hx hb d_Model_reset_39 (by decide) ?_
        refine lv_iadd hx hb d_Model_reset_40 ?_
        refine sy_iast hx hb hK.1 hP hD hS 1 0 rfl rfl (k := zd) (by omega) (by decide) d_Model_reset_41 (fun H locs hP hD hS => ?_)
        rw [mw_s0] at hP hD
        refine lv_aload_n hx hb d_Model_reset_42 rfl (lv_at hl 0 rfl) ?_
        refine va_get (D := G.1) (ci := 7) (v := .ref (ad 1)) (C := R_Model) (T := F_Model) (N := 23) hx hb ht i_Model hown hK.1 hP 0 rfl rfl 2 (by decide) (ht _ m_507) (fun _ h9 => h9) rfl d_Model_reset_43 ?_
        refine lv_iload_n hx hb d_Model_reset_46 rfl (lv_at hl 1 rfl) ?_
        refine lv_lload_n hx hb d_Model_reset_47 rfl (lv_at hl 2 rfl) ?_
        refine sy_last hx hb hK.1 hP hD hS 2 1 rfl rfl (k := zd) (by omega) (by decide) d_Model_reset_48 (fun H locs hP hD hS => ?_)
        rw [mw_s1] at hP hD
        refine lv_iconst (v := 1) hx hb d_Model_reset_49 (by decide) ?_
        exact W.zret (v := (1 : Int32)) hx hb hr (rfl) (fun t ht hW => ⟨⟨(1 : Int32), (sc, va_up mI 0 (upd (mI 0) zd ((mI 0 zd) + 1)), va_up mL 1 (vp_updL (mL 1) zd x), mZ), rfl, by constructor <;> simp [mo_reset, bI, c_2, hczd, c_4, c_5], by show va_P _ _ _ t.heap; rw [ht]; exact hP⟩, hS.F ht⟩) hS.2.2 d_Model_reset_50
      · refine lv_iconst (v := 0) hx hb d_Model_reset_30 (by decide) ?_
        exact W.zret (v := (0 : Int32)) hx hb hr (rfl) (fun t ht hW => ⟨⟨(0 : Int32), (sc, mI, mL, mZ), rfl, by constructor <;> simp [mo_reset, bI, c_2, hczd, c_4, c_5], by show va_P _ _ _ t.heap; rw [ht]; exact hP⟩, hS.F ht⟩) hS.2.2 d_Model_reset_31
set_option maxHeartbeats 4000000 in
set_option maxRecDepth 100000 in
theorem c_Model_tell (l : Launch) (G : sy_G) (ob : Nat) (ad : Nat → Nat) (sc : Nat → Nat) (mI : Nat → Nat → Int32) (mL : Nat → Nat → Int64) (mZ : Nat → Nat → Bool) (d : Int32) (x : Int64) (kd : Int32) (se : Int64) (v : Int64) (wh : Int64) (hd : sc 0 ≤ 4) (hn : sc 1 ≤ 60) : Met l y_Model_tell (sy_w y_Model_tell b_Model_tell 12 (some .int)) { frames := 1, cells := 0, slots := 0, locals := 25 } (va_Pc [.ref ob, .int d, .long x, .int kd, .long se, .long v, .long wh] (sy_KP G (fun H => va_P G.1 classes (mw G.2 ob ad sc mI mL mZ) H ∧ va_D (fun _ => True) (mw G.2 ob ad sc mI mL mZ)))) (va_Qi (S := ms_S) (fun r u => r = (mo_tell sc mI mL mZ d x kd se v wh).1 ∧ u = (mo_tell sc mI mL mZ d x kd se v wh).2) (fun u t => va_P G.1 classes (mw G.2 ob ad u.1 u.2.1 u.2.2.1 u.2.2.2) t.heap) (sy_A (mw G.2 ob ad sc mI mL mZ))) 0 0 (sy_A (mw G.2 ob ad sc mI mL mZ)) := by
  refine Met.ofW (cc := b_Model_tell) (maxL := 12) (ret := (some .int)) (by decide) rfl ?_
  intro p e s m args below meth c s₁ B hml hv
  obtain ⟨rfl, ⟨hP, hD0⟩, hK⟩ := hv
  have hx := B.exec
  have hb := B.bytes
  have hr := B.returns
  have hts := atoms_spec (ws := sy_w y_Model_tell b_Model_tell 12 (some .int)) B.pre
  have ht : ∀ wd ∈ sy_T, wd.before ([.ref ob, .int d, .long x, .int kd, .long se, .long v, .long wh] : List Value).toArray s = true := fun wd h => hts wd (List.mem_cons_of_mem _ h)
  have hown : s.vm.findClass R_Model = some m.cls := findClass_of_methodNamed B.named
  have hlocks := B.notSynchronized
  have hD := sy_self hD0
  generalize hAe : sy_A (mw G.2 ob ad sc mI mL mZ) = A at hD ⊢
  have hS : va_S A s.heap s.heap [] := va_S.rf
  have hl := lv_entry ([.ref ob, .int d, .long x, .int kd, .long se, .long v, .long wh]) (n := 12) (Nat.le_of_ble_eq_true rfl)
  rw [lg_entry_eq]
  generalize (lg_sl ([.ref ob, .int d, .long x, .int kd, .long se, .long v, .long wh]) ++ List.replicate (12 - (lg_sl ([.ref ob, .int d, .long x, .int kd, .long se, .long v, .long wh])).length) Slot.unset).toArray = ls at hl ⊢
  have hl : lv_has ls 12 [(0, .ref ob), (1, .int d), (2, .long x), (4, .int kd), (5, .long se), (7, .long v), (9, .long wh)] := hl
  refine lv_aload_n hx hb d_Model_tell_0 rfl (lv_at hl 0 rfl) ?_
  refine lv_iload_n hx hb d_Model_tell_1 rfl (lv_at hl 1 rfl) ?_
  refine vp_callSi (va_Run.run (sy_runV (As := [.int d]) (rest := []) (b := ob) ⟨hx, hb, hml, hown, ht⟩ cl_Model_73 (c_Model_isDevice l G ob ad sc mI mL mZ d (by omega)) hK hP (va_recv hK.1 hP (ci := 7) (q0 := 0) rfl rfl) rfl nm_Model_isDevice rfl rfl ⟨Nat.le_of_ble_eq_true rfl, Nat.le_of_ble_eq_true rfl⟩ hl.1 (Nat.le_of_ble_eq_true rfl) d_Model_tell_2 ⟨Nat.zero_le _, Nat.zero_le _⟩)) (fun r_1 hr_1 => ?_)
  subst hr_1
  refine lv_if_eq (tgt := 75) hx hb d_Model_tell_5 (by decide) (fun c_2 => ?_) (fun c_2 => ?_)
  · have c_2 : (mo_ok (sc 0) d) = false := bI_f c_2
    refine lv_iconst (v := (-1)) hx hb d_Model_tell_75 (by decide) ?_
    exact W.iret (v := (-1 : Int32)) hx hb hr (fun t ht hW => ⟨⟨(-1 : Int32), (sc, mI, mL, mZ), rfl, by first | (constructor <;> simp [mo_tell, mo_tok, c_2]; done) | (have h1 : ¬ mo_tok sc mL (nI zd) x kd se v wh = false := (by simp [mo_tok, c_2]); have h2 : nn_any (mo_te mI mL (nI zd) x kd se v) (sc 1) = true := nn_any_of (k := k) (by omega) (by simp [mo_te, c_2]; done); constructor <;> rw [mo_tell, if_neg h1, if_pos h2]; done) | (have h1 : ¬ mo_tok sc mL (nI zd) x kd se v wh = false := (by simp [mo_tok, c_2]); have h2 : ¬ nn_any (mo_te mI mL (nI zd) x kd se v) (sc 1) = true := (by rw [show sc 1 = k by omega, hI]; simp); first | (constructor <;> rw [mo_tell, if_neg h1, if_neg h2, if_pos c_2]; done) | (constructor <;> rw [mo_tell, if_neg h1, if_neg h2, if_neg c_2, hczd]; done)), by show va_P _ _ _ t.heap; rw [ht]; exact hP⟩, hS.F ht⟩) hS.2.2 d_Model_tell_76
  · have c_2 : (mo_ok (sc 0) d) = true := bI_t c_2
    obtain ⟨zd, hzd, ezd⟩ := mo_ix (by omega) c_2
    subst ezd
    have hczd : (nI zd).toNatClampNeg = zd := nI_clamp (by omega)
    refine lv_lload_n hx hb d_Model_tell_8 rfl (lv_at hl 2 rfl) ?_
    refine lv_aload_n hx hb d_Model_tell_9 rfl (lv_at hl 0 rfl) ?_
    refine va_get (D := G.1) (ci := 7) (v := .ref (ad 1)) (C := R_Model) (T := F_Model) (N := 23) hx hb ht i_Model hown hK.1 hP 0 rfl rfl 2 (by decide) (ht _ m_507) (fun _ h9 => h9) rfl d_Model_tell_10 ?_
    refine lv_iload_n hx hb d_Model_tell_13 rfl (lv_at hl 1 rfl) ?_
    refine sy_lald hx hb hK.1 hP 2 1 rfl rfl (k := zd) (by omega) (by decide) d_Model_tell_14 ?_
    refine lv_ldc2 (v := 1000000) hx hb hown (ht _ m_588) d_Model_tell_15 ?_
    refine vp_callSi (va_Run.run (sy_runS (As := [.long x, .long (mL 1 zd), .long 1000000]) (rest := []) ⟨hx, hb, hml, hown, ht⟩ cl_Model_79 (c_Model_isIn l G x (mL 1 zd) (1000000 : Int64)) hK trivial rfl nm_Model_isIn rfl rfl ⟨Nat.le_of_ble_eq_true rfl, Nat.le_of_ble_eq_true rfl⟩ hl.1 (Nat.le_of_ble_eq_true rfl) d_Model_tell_18 ⟨Nat.zero_le _, Nat.zero_le _⟩)) (fun r_3 hr_3 => ?_)
    subst hr_3
    refine lv_if_eq (tgt := 75) hx hb d_Model_tell_21 (by decide) (fun c_4 => ?_) (fun c_4 => ?_)
    · have c_4 : (mo_in x (mL 1 zd) (1000000 : Int64)) = false := bI_f c_4
      refine lv_iconst (v := (-1)) hx hb d_Model_tell_75 (by decide) ?_
      exact W.iret (v := (-1 : Int32)) hx hb hr (fun t ht hW => ⟨⟨(-1 : Int32), (sc, mI, mL, mZ), rfl, by first | (constructor <;> simp [mo_tell, mo_tok, c_2, hczd, c_4]; done) | (have h1 : ¬ mo_tok sc mL (nI zd) x kd se v wh = false := (by simp [mo_tok, c_2, hczd, c_4]); have h2 : nn_any (mo_te mI mL (nI zd) x kd se v) (sc 1) = true := nn_any_of (k := k) (by omega) (by simp [mo_te, c_2, hczd, c_4]; done); constructor <;> rw [mo_tell, if_neg h1, if_pos h2]; done) | (have h1 : ¬ mo_tok sc mL (nI zd) x kd se v wh = false := (by simp [mo_tok, c_2, hczd, c_4]); have h2 : ¬ nn_any (mo_te mI mL (nI zd) x kd se v) (sc 1) = true := (by rw [show sc 1 = k by omega, hI]; simp); first | (constructor <;> rw [mo_tell, if_neg h1, if_neg h2, if_pos c_4]; done) | (constructor <;> rw [mo_tell, if_neg h1, if_neg h2, if_neg c_4, hczd]; done)), by show va_P _ _ _ t.heap; rw [ht]; exact hP⟩, hS.F ht⟩) hS.2.2 d_Model_tell_76
    · have c_4 : (mo_in x (mL 1 zd) (1000000 : Int64)) = true := bI_t c_4
      refine lv_iload hx hb d_Model_tell_24 (lv_at hl 3 rfl) ?_
      refine lv_i2l (v := kd.toInt64) hx hb d_Model_tell_26 rfl ?_
      refine lv_lconst (v := 0) hx hb d_Model_tell_27 (by decide) ?_
      refine lv_ldc2 (v := 3) hx hb hown (ht _ m_592) d_Model_tell_28 ?_
      refine vp_callSi (va_Run.run (sy_runS (As := [.long kd.toInt64, .long 0, .long 3]) (rest := []) ⟨hx, hb, hml, hown, ht⟩ cl_Model_79 (c_Model_isIn l G kd.toInt64 (0 : Int64) (3 : Int64)) hK trivial rfl nm_Model_isIn rfl rfl ⟨Nat.le_of_ble_eq_true rfl, Nat.le_of_ble_eq_true rfl⟩ hl.1 (Nat.le_of_ble_eq_true rfl) d_Model_tell_31 ⟨Nat.zero_le _, Nat.zero_le _⟩)) (fun r_5 hr_5 => ?_)
      subst hr_5
      refine lv_if_eq (tgt := 75) hx hb d_Model_tell_34 (by decide) (fun c_6 => ?_) (fun c_6 => ?_)
      · have c_6 : (mo_in kd.toInt64 (0 : Int64) (3 : Int64)) = false := bI_f c_6
        refine lv_iconst (v := (-1)) hx hb d_Model_tell_75 (by decide) ?_
        exact W.iret (v := (-1 : Int32)) hx hb hr (fun t ht hW => ⟨⟨(-1 : Int32), (sc, mI, mL, mZ), rfl, by first | (constructor <;> simp [mo_tell, mo_tok, c_2, hczd, c_4, c_6]; done) | (have h1 : ¬ mo_tok sc mL (nI zd) x kd se v wh = false := (by simp [mo_tok, c_2, hczd, c_4, c_6]); have h2 : nn_any (mo_te mI mL (nI zd) x kd se v) (sc 1) = true := nn_any_of (k := k) (by omega) (by simp [mo_te, c_2, hczd, c_4, c_6]; done); constructor <;> rw [mo_tell, if_neg h1, if_pos h2]; done) | (have h1 : ¬ mo_tok sc mL (nI zd) x kd se v wh = false := (by simp [mo_tok, c_2, hczd, c_4, c_6]); have h2 : ¬ nn_any (mo_te mI mL (nI zd) x kd se v) (sc 1) = true := (by rw [show sc 1 = k by omega, hI]; simp); first | (constructor <;> rw [mo_tell, if_neg h1, if_neg h2, if_pos c_6]; done) | (constructor <;> rw [mo_tell, if_neg h1, if_neg h2, if_neg c_6, hczd]; done)), by show va_P _ _ _ t.heap; rw [ht]; exact hP⟩, hS.F ht⟩) hS.2.2 d_Model_tell_76
      · have c_6 : (mo_in kd.toInt64 (0 : Int64) (3 : Int64)) = true := bI_t c_6
        refine lv_lload hx hb d_Model_tell_37 (lv_at hl 4 rfl) ?_
        refine lv_lconst (v := 0) hx hb d_Model_tell_39 (by decide) ?_
        refine lv_ldc2 (v := 1000000) hx hb hown (ht _ m_588) d_Model_tell_40 ?_
        refine vp_callSi (va_Run.run (sy_runS (As := [.long se, .long 0, .long 1000000]) (rest := []) ⟨hx, hb, hml, hown, ht⟩ cl_Model_79 (c_Model_isIn l G se (0 : Int64) (1000000 : Int64)) hK trivial rfl nm_Model_isIn rfl rfl ⟨Nat.le_of_ble_eq_true rfl, Nat.le_of_ble_eq_true rfl⟩ hl.1 (Nat.le_of_ble_eq_true rfl) d_Model_tell_43 ⟨Nat.zero_le _, Nat.zero_le _⟩)) (fun r_7 hr_7 => ?_)
        subst hr_7
        refine lv_if_eq (tgt := 75) hx hb d_Model_tell_46 (by decide) (fun c_8 => ?_) (fun c_8 => ?_)
        · have c_8 : (mo_in se (0 : Int64) (1000000 : Int64)) = false := bI_f c_8
          refine lv_iconst (v := (-1)) hx hb d_Model_tell_75 (by decide) ?_
          exact W.iret (v := (-1 : Int32)) hx hb hr (fun t ht hW => ⟨⟨(-1 : Int32), (sc, mI, mL, mZ), rfl, by first | (constructor <;> simp [mo_tell, mo_tok, c_2, hczd, c_4, c_6, c_8]; done) | (have h1 : ¬ mo_tok sc mL (nI zd) x kd se v wh = false := (by simp [mo_tok, c_2, hczd, c_4, c_6, c_8]); have h2 : nn_any (mo_te mI mL (nI zd) x kd se v) (sc 1) = true := nn_any_of (k := k) (by omega) (by simp [mo_te, c_2, hczd, c_4, c_6, c_8]; done); constructor <;> rw [mo_tell, if_neg h1, if_pos h2]; done) | (have h1 : ¬ mo_tok sc mL (nI zd) x kd se v wh = false := (by simp [mo_tok, c_2, hczd, c_4, c_6, c_8]); have h2 : ¬ nn_any (mo_te mI mL (nI zd) x kd se v) (sc 1) = true := (by rw [show sc 1 = k by omega, hI]; simp); first | (constructor <;> rw [mo_tell, if_neg h1, if_neg h2, if_pos c_8]; done) | (constructor <;> rw [mo_tell, if_neg h1, if_neg h2, if_neg c_8, hczd]; done)), by show va_P _ _ _ t.heap; rw [ht]; exact hP⟩, hS.F ht⟩) hS.2.2 d_Model_tell_76
        · have c_8 : (mo_in se (0 : Int64) (1000000 : Int64)) = true := bI_t c_8
          refine lv_lload hx hb d_Model_tell_49 (lv_at hl 5 rfl) ?_
          refine lv_ldc2 (v := (-1000000000)) hx hb hown (ht _ m_593) d_Model_tell_51 ?_
          refine lv_ldc2 (v := 1000000000) hx hb hown (ht _ m_594) d_Model_tell_54 ?_
          refine vp_callSi (va_Run.run (sy_runS (As := [.long v, .long (-1000000000), .long 1000000000]) (rest := []) ⟨hx, hb, hml, hown, ht⟩ cl_Model_79 (c_Model_isIn l G v (-1000000000 : Int64) (1000000000 : Int64)) hK trivial rfl nm_Model_isIn rfl rfl ⟨Nat.le_of_ble_eq_true rfl, Nat.le_of_ble_eq_true rfl⟩ hl.1 (Nat.le_of_ble_eq_true rfl) d_Model_tell_57 ⟨Nat.zero_le _, Nat.zero_le _⟩)) (fun r_9 hr_9 => ?_)
          subst hr_9
          refine lv_if_eq (tgt := 75) hx hb d_Model_tell_60 (by decide) (fun c_10 => ?_) (fun c_10 => ?_)
          · have c_10 : (mo_in v (-1000000000 : Int64) (1000000000 : Int64)) = false := bI_f c_10
            refine lv_iconst (v := (-1)) hx hb d_Model_tell_75 (by decide) ?_
            exact W.iret (v := (-1 : Int32)) hx hb hr (fun t ht hW => ⟨⟨(-1 : Int32), (sc, mI, mL, mZ), rfl, by first | (constructor <;> simp [mo_tell, mo_tok, c_2, hczd, c_4, c_6, c_8, c_10]; done) | (have h1 : ¬ mo_tok sc mL (nI zd) x kd se v wh = false := (by simp [mo_tok, c_2, hczd, c_4, c_6, c_8, c_10]); have h2 : nn_any (mo_te mI mL (nI zd) x kd se v) (sc 1) = true := nn_any_of (k := k) (by omega) (by simp [mo_te, c_2, hczd, c_4, c_6, c_8, c_10]; done); constructor <;> rw [mo_tell, if_neg h1, if_pos h2]; done) | (have h1 : ¬ mo_tok sc mL (nI zd) x kd se v wh = false := (by simp [mo_tok, c_2, hczd, c_4, c_6, c_8, c_10]); have h2 : ¬ nn_any (mo_te mI mL (nI zd) x kd se v) (sc 1) = true := (by rw [show sc 1 = k by omega, hI]; simp); first | (constructor <;> rw [mo_tell, if_neg h1, if_neg h2, if_pos c_10]; done) | (constructor <;> rw [mo_tell, if_neg h1, if_neg h2, if_neg c_10, hczd]; done)), by show va_P _ _ _ t.heap; rw [ht]; exact hP⟩, hS.F ht⟩) hS.2.2 d_Model_tell_76
          · have c_10 : (mo_in v (-1000000000 : Int64) (1000000000 : Int64)) = true := bI_t c_10
            refine lv_lload hx hb d_Model_tell_63 (lv_at hl 6 rfl) ?_
            refine lv_lconst (v := 0) hx hb d_Model_tell_65 (by decide) ?_
            refine lv_ldc2 (v := 1000000) hx hb hown (ht _ m_588) d_Model_tell_66 ?_
            refine vp_callSi (va_Run.run (sy_runS (As := [.long wh, .long 0, .long 1000000]) (rest := []) ⟨hx, hb, hml, hown, ht⟩ cl_Model_79 (c_Model_isIn l G wh (0 : Int64) (1000000 : Int64)) hK trivial rfl nm_Model_isIn rfl rfl ⟨Nat.le_of_ble_eq_true rfl, Nat.le_of_ble_eq_true rfl⟩ hl.1 (Nat.le_of_ble_eq_true rfl) d_Model_tell_69 ⟨Nat.zero_le _, Nat.zero_le _⟩)) (fun r_11 hr_11 => ?_)
            subst hr_11
            refine lv_if_ne (tgt := 77) hx hb d_Model_tell_72 (by decide) (fun c_12 => ?_) (fun c_12 => ?_)
            · have c_12 : (mo_in wh (0 : Int64) (1000000 : Int64)) = true := bI_t c_12
              refine lv_iconst (v := 0) hx hb d_Model_tell_77 (by decide) ?_
              refine lv_istore (lv' := [(11, .int 0), (0, .ref ob), (1, .int (nI zd)), (2, .long x), (4, .int kd), (5, .long se), (7, .long v), (9, .long wh)]) hx hb d_Model_tell_78 hl (by decide) rfl (fun ls hl => ?_)
              refine sy_loop (σ := Nat) (nL := 12) (fun k => sc 1 - k) (fun k => [(11, .int (nI k)), (0, .ref ob), (1, .int (nI zd)), (2, .long x), (4, .int kd), (5, .long se), (7, .long v), (9, .long wh)]) (fun k => k ≤ sc 1 ∧ nn_any (mo_te mI mL (nI zd) x kd se v) k = false) ?_ 0 ?_ (lv_sub hl [0, 1, 2, 3, 4, 5, 6, 7] rfl)
              · intro k ls hI hl ih80
                have hl : lv_has ls 12 [(11, .int (nI k)), (0, .ref ob), (1, .int (nI zd)), (2, .long x), (4, .int kd), (5, .long se), (7, .long v), (9, .long wh)] := hl
                obtain ⟨hk, hI⟩ := hI
                refine lv_iload hx hb d_Model_tell_80 (lv_at hl 0 rfl) ?_
                refine lv_aload_n hx hb d_Model_tell_82 rfl (lv_at hl 1 rfl) ?_
                refine va_get (D := G.1) (ci := 7) (v := .int (nI (sc 1))) (C := R_Model) (T := F_Model) (N := 23) hx hb ht i_Model hown hK.1 hP 0 rfl rfl 3 (by decide) (ht _ m_508) (fun _ h9 => h9) rfl d_Model_tell_83 ?_
                refine lv_icmp_ge (tgt := 176) hx hb d_Model_tell_86 (by decide) (fun c_13 => ?_) (fun c_13 => ?_)
                · have c_13 : (sc 1) ≤ k := (nI_leI (a := sc 1) (b := k) (by omega) (by omega)).mp c_13
                  have c_13n : ¬ k < (sc 1) := by omega
                  refine lv_aload_n hx hb d_Model_tell_176 rfl (lv_at hl 1 rfl) ?_
                  refine va_get (D := G.1) (ci := 7) (v := .int (nI (sc 1))) (C := R_Model) (T := F_Model) (N := 23) hx hb ht i_Model hown hK.1 hP 0 rfl rfl 3 (by decide) (ht _ m_508) (fun _ h9 => h9) rfl d_Model_tell_177 ?_
                  refine lv_bipush (v := 60) hx hb d_Model_tell_180 (by decide) ?_
                  refine lv_icmp_ne (tgt := 187) hx hb d_Model_tell_182 (by decide) (fun c_14 => ?_) (fun c_14 => ?_)
                  · have c_14 : ¬ (sc 1) = 60 := fun h9 => c_14 ((nI_eq (a := sc 1) (b := 60) (by omega) (by omega)).mpr h9)
                    refine lv_aload_n hx hb d_Model_tell_187 rfl (lv_at hl 1 rfl) ?_
                    refine va_get (D := G.1) (ci := 7) (v := .ref (ad 2)) (C := R_Model) (T := F_Model) (N := 23) hx hb ht i_Model hown hK.1 hP 0 rfl rfl 4 (by decide) (ht _ m_509) (fun _ h9 => h9) rfl d_Model_tell_188 ?_
                    refine lv_aload_n hx hb d_Model_tell_191 rfl (lv_at hl 1 rfl) ?_
                    refine va_get (D := G.1) (ci := 7) (v := .int (nI (sc 1))) (C := R_Model) (T := F_Model) (N := 23) hx hb ht i_Model hown hK.1 hP 0 rfl rfl 3 (by decide) (ht _ m_508) (fun _ h9 => h9) rfl d_Model_tell_192 ?_
                    refine lv_iload_n hx hb d_Model_tell_195 rfl (lv_at hl 2 rfl) ?_
                    refine sy_iast hx hb hK.1 hP hD hS 3 0 rfl rfl (k := sc 1) (by omega) (by decide) d_Model_tell_196 (fun H locs hP hD hS => ?_)
                    rw [mw_s2] at hP hD
                    refine lv_aload_n hx hb d_Model_tell_197 rfl (lv_at hl 1 rfl) ?_
                    refine va_get (D := G.1) (ci := 7) (v := .ref (ad 3)) (C := R_Model) (T := F_Model) (N := 23) hx hb ht i_Model hown hK.1 hP 0 rfl rfl 5 (by decide) (ht _ m_510) (fun _ h9 => h9) rfl d_Model_tell_198 ?_
                    refine lv_aload_n hx hb d_Model_tell_201 rfl (lv_at hl 1 rfl) ?_
                    refine va_get (D := G.1) (ci := 7) (v := .int (nI (sc 1))) (C := R_Model) (T := F_Model) (N := 23) hx hb ht i_Model hown hK.1 hP 0 rfl rfl 3 (by decide) (ht _ m_508) (fun _ h9 => h9) rfl d_Model_tell_202 ?_
                    refine lv_aload_n hx hb d_Model_tell_205 rfl (lv_at hl 1 rfl) ?_
                    refine va_get (D := G.1) (ci := 7) (v := .ref (ad 0)) (C := R_Model) (T := F_Model) (N := 23) hx hb ht i_Model hown hK.1 hP 0 rfl rfl 1 (by decide) (ht _ m_506) (fun _ h9 => h9) rfl d_Model_tell_206 ?_
                    refine lv_iload_n hx hb d_Model_tell_209 rfl (lv_at hl 2 rfl) ?_
                    refine sy_iald hx hb hK.1 hP 1 0 rfl rfl (k := zd) (by omega) (by decide) d_Model_tell_210 ?_
                    refine sy_ti (y := mI 0 zd) rfl ?_
                    refine sy_iast hx hb hK.1 hP hD hS 4 0 rfl rfl (k := sc 1) (by omega) (by decide) d_Model_tell_211 (fun H locs hP hD hS => ?_)
                    rw [show (va_up mI 2 (upd (mI 2) (sc 1) (nI zd))) 3 = mI 3 from rfl, mw_s3] at hP hD
                    refine lv_aload_n hx hb d_Model_tell_212 rfl (lv_at hl 1 rfl) ?_
                    refine va_get (D := G.1) (ci := 7) (v := .ref (ad 4)) (C := R_Model) (T := F_Model) (N := 23) hx hb ht i_Model hown hK.1 hP 0 rfl rfl 6 (by decide) (ht _ m_511) (fun _ h9 => h9) rfl d_Model_tell_213 ?_
                    refine lv_aload_n hx hb d_Model_tell_216 rfl (lv_at hl 1 rfl) ?_
                    refine va_get (D := G.1) (ci := 7) (v := .int (nI (sc 1))) (C := R_Model) (T := F_Model) (N := 23) hx hb ht i_Model hown hK.1 hP 0 rfl rfl 3 (by decide) (ht _ m_508) (fun _ h9 => h9) rfl d_Model_tell_217 ?_
                    refine lv_lload_n hx hb d_Model_tell_220 rfl (lv_at hl 3 rfl) ?_
                    refine lv_l2i (v := x.toInt32) hx hb d_Model_tell_221 rfl ?_
                    refine sy_iast hx hb hK.1 hP hD hS 5 0 rfl rfl (k := sc 1) (by omega) (by decide) d_Model_tell_222 (fun H locs hP hD hS => ?_)
                    rw [show (va_up (va_up mI 2 (upd (mI 2) (sc 1) (nI zd))) 3 (upd (mI 3) (sc 1) (mI 0 zd))) 4 = mI 4 from rfl, mw_s4] at hP hD
                    refine lv_aload_n hx hb d_Model_tell_223 rfl (lv_at hl 1 rfl) ?_
                    refine va_get (D := G.1) (ci := 7) (v := .ref (ad 5)) (C := R_Model) (T := F_Model) (N := 23) hx hb ht i_Model hown hK.1 hP 0 rfl rfl 7 (by decide) (ht _ m_512) (fun _ h9 => h9) rfl d_Model_tell_224 ?_
                    refine lv_aload_n hx hb d_Model_tell_227 rfl (lv_at hl 1 rfl) ?_
                    refine va_get (D := G.1) (ci := 7) (v := .int (nI (sc 1))) (C := R_Model) (T := F_Model) (N := 23) hx hb ht i_Model hown hK.1 hP 0 rfl rfl 3 (by decide) (ht _ m_508) (fun _ h9 => h9) rfl d_Model_tell_228 ?_
                    refine lv_iload hx hb d_Model_tell_231 (lv_at hl 4 rfl) ?_
                    refine sy_iast hx hb hK.1 hP hD hS 6 0 rfl rfl (k := sc 1) (by omega) (by decide) d_Model_tell_233 (fun H locs hP hD hS => ?_)
                    rw [show (va_up (va_up (va_up mI 2 (upd (mI 2) (sc 1) (nI zd))) 3 (upd (mI 3) (sc 1) (mI 0 zd))) 4 (upd (mI 4) (sc 1) x.toInt32)) 5 = mI 5 from rfl, mw_s5] at hP hD
                    refine lv_aload_n hx hb d_Model_tell_234 rfl (lv_at hl 1 rfl) ?_
                    refine va_get (D := G.1) (ci := 7) (v := .ref (ad 6)) (C := R_Model) (T := F_Model) (N := 23) hx hb ht i_Model hown hK.1 hP 0 rfl rfl 8 (by decide) (ht _ m_513) (fun _ h9 => h9) rfl d_Model_tell_235 ?_
                    refine lv_aload_n hx hb d_Model_tell_238 rfl (lv_at hl 1 rfl) ?_
                    refine va_get (D := G.1) (ci := 7) (v := .int (nI (sc 1))) (C := R_Model) (T := F_Model) (N := 23) hx hb ht i_Model hown hK.1 hP 0 rfl rfl 3 (by decide) (ht _ m_508) (fun _ h9 => h9) rfl d_Model_tell_239 ?_
                    refine lv_lload hx hb d_Model_tell_242 (lv_at hl 5 rfl) ?_
                    refine lv_l2i (v := se.toInt32) hx hb d_Model_tell_244 rfl ?_
                    refine sy_iast hx hb hK.1 hP hD hS 7 0 rfl rfl (k := sc 1) (by omega) (by decide) d_Model_tell_245 (fun H locs hP hD hS => ?_)
                    rw [show (va_up (va_up (va_up (va_up mI 2 (upd (mI 2) (sc 1) (nI zd))) 3 (upd (mI 3) (sc 1) (mI 0 zd))) 4 (upd (mI 4) (sc 1) x.toInt32)) 5 (upd (mI 5) (sc 1) kd)) 6 = mI 6 from rfl, mw_s6] at hP hD
                    refine lv_aload_n hx hb d_Model_tell_246 rfl (lv_at hl 1 rfl) ?_
                    refine va_get (D := G.1) (ci := 7) (v := .ref (ad 7)) (C := R_Model) (T := F_Model) (N := 23) hx hb ht i_Model hown hK.1 hP 0 rfl rfl 9 (by decide) (ht _ m_514) (fun _ h9 => h9) rfl d_Model_tell_247 ?_
                    refine lv_aload_n hx hb d_Model_tell_250 rfl (lv_at hl 1 rfl) ?_
                    refine va_get (D := G.1) (ci := 7) (v := .int (nI (sc 1))) (C := R_Model) (T := F_Model) (N := 23) hx hb ht i_Model hown hK.1 hP 0 rfl rfl 3 (by decide) (ht _ m_508) (fun _ h9 => h9) rfl d_Model_tell_251 ?_
                    refine lv_lload hx hb d_Model_tell_254 (lv_at hl 6 rfl) ?_
                    refine sy_last hx hb hK.1 hP hD hS 8 1 rfl rfl (k := sc 1) (by omega) (by decide) d_Model_tell_256 (fun H locs hP hD hS => ?_)
                    rw [mw_s7] at hP hD
                    refine lv_aload_n hx hb d_Model_tell_257 rfl (lv_at hl 1 rfl) ?_
                    refine va_get (D := G.1) (ci := 7) (v := .ref (ad 8)) (C := R_Model) (T := F_Model) (N := 23) hx hb ht i_Model hown hK.1 hP 0 rfl rfl 10 (by decide) (ht _ m_515) (fun _ h9 => h9) rfl d_Model_tell_258 ?_
                    refine lv_aload_n hx hb d_Model_tell_261 rfl (lv_at hl 1 rfl) ?_
                    refine va_get (D := G.1) (ci := 7) (v := .int (nI (sc 1))) (C := R_Model) (T := F_Model) (N := 23) hx hb ht i_Model hown hK.1 hP 0 rfl rfl 3 (by decide) (ht _ m_508) (fun _ h9 => h9) rfl d_Model_tell_262 ?_
                    refine lv_lload hx hb d_Model_tell_265 (lv_at hl 7 rfl) ?_
                    refine lv_l2i (v := wh.toInt32) hx hb d_Model_tell_267 rfl ?_
                    refine sy_iast hx hb hK.1 hP hD hS 9 0 rfl rfl (k := sc 1) (by omega) (by decide) d_Model_tell_268 (fun H locs hP hD hS => ?_)
                    rw [show (va_up (va_up (va_up (va_up (va_up mI 2 (upd (mI 2) (sc 1) (nI zd))) 3 (upd (mI 3) (sc 1) (mI 0 zd))) 4 (upd (mI 4) (sc 1) x.toInt32)) 5 (upd (mI 5) (sc 1) kd)) 6 (upd (mI 6) (sc 1) se.toInt32)) 8 = mI 8 from rfl, mw_s8] at hP hD
                    refine lv_aload_n hx hb d_Model_tell_269 rfl (lv_at hl 1 rfl) ?_
                    refine lv_dup hx hb d_Model_tell_270 rfl ?_
                    refine va_get (D := G.1) (ci := 7) (v := .int (nI (sc 1))) (C := R_Model) (T := F_Model) (N := 23) hx hb ht i_Model hown hK.1 hP 0 rfl rfl 3 (by decide) (ht _ m_508) (fun _ h9 => h9) rfl d_Model_tell_271 ?_
                    refine lv_iconst (v := 1) hx hb d_Model_tell_274 (by decide) ?_
                    refine lv_iadd hx hb d_Model_tell_275 ?_
                    refine sy_ti (y := nI ((sc 1) + 1)) (nI_add (sc 1) 1) ?_
                    refine va_put (D := G.1) (ci := 7) (v := .int (nI ((sc 1) + 1))) (ty := .int) (C := R_Model) (T := F_Model) (N := 23) hx hb ht i_Model t_Model t_Model_ok n_Model hown hK.1 hP hD hS 0 rfl rfl 3 (by decide) (ht _ m_508) (fun _ h9 => h9) rfl (by decide +kernel) rfl rfl (Nat.le_of_ble_eq_true rfl) d_Model_tell_276 (fun H locs hP hD hS => ?_)
                    have hP : va_P G.1 classes (mw G.2 ob ad (va_up sc 1 ((sc 1) + 1)) (va_up (va_up (va_up (va_up (va_up (va_up mI 2 (upd (mI 2) (sc 1) (nI zd))) 3 (upd (mI 3) (sc 1) (mI 0 zd))) 4 (upd (mI 4) (sc 1) x.toInt32)) 5 (upd (mI 5) (sc 1) kd)) 6 (upd (mI 6) (sc 1) se.toInt32)) 8 (upd (mI 8) (sc 1) wh.toInt32)) (va_up mL 7 (vp_updL (mL 7) (sc 1) v)) mZ) H := hP
                    have hD : va_D A (mw G.2 ob ad (va_up sc 1 ((sc 1) + 1)) (va_up (va_up (va_up (va_up (va_up (va_up mI 2 (upd (mI 2) (sc 1) (nI zd))) 3 (upd (mI 3) (sc 1) (mI 0 zd))) 4 (upd (mI 4) (sc 1) x.toInt32)) 5 (upd (mI 5) (sc 1) kd)) 6 (upd (mI 6) (sc 1) se.toInt32)) 8 (upd (mI 8) (sc 1) wh.toInt32)) (va_up mL 7 (vp_updL (mL 7) (sc 1) v)) mZ) := hD
                    refine lv_iconst (v := 1) hx hb d_Model_tell_279 (by decide) ?_
                    exact W.iret (v := (1 : Int32)) hx hb hr (fun t ht hW => ⟨⟨(1 : Int32), (va_up sc 1 ((sc 1) + 1), va_up (va_up (va_up (va_up (va_up (va_up mI 2 (upd (mI 2) (sc 1) (nI zd))) 3 (upd (mI 3) (sc 1) (mI 0 zd))) 4 (upd (mI 4) (sc 1) x.toInt32)) 5 (upd (mI 5) (sc 1) kd)) 6 (upd (mI 6) (sc 1) se.toInt32)) 8 (upd (mI 8) (sc 1) wh.toInt32), va_up mL 7 (vp_updL (mL 7) (sc 1) v), mZ), rfl, by first | (constructor <;> simp [mo_tell, mo_tok, c_2, hczd, c_4, c_6, c_8, c_10, c_12, c_13, c_13n, c_14]; done) | (have h1 : ¬ mo_tok sc mL (nI zd) x kd se v wh = false := (by simp [mo_tok, c_2, hczd, c_4, c_6, c_8, c_10, c_12, c_13, c_13n, c_14]); have h2 : nn_any (mo_te mI mL (nI zd) x kd se v) (sc 1) = true := nn_any_of (k := k) (by omega) (by simp [mo_te, c_2, hczd, c_4, c_6, c_8, c_10, c_12, c_13, c_13n, c_14]; done); constructor <;> rw [mo_tell, if_neg h1, if_pos h2]; done) | (have h1 : ¬ mo_tok sc mL (nI zd) x kd se v wh = false := (by simp [mo_tok, c_2, hczd, c_4, c_6, c_8, c_10, c_12, c_13, c_13n, c_14]); have h2 : ¬ nn_any (mo_te mI mL (nI zd) x kd se v) (sc 1) = true := (by rw [show sc 1 = k by omega, hI]; simp); first | (constructor <;> rw [mo_tell, if_neg h1, if_neg h2, if_pos c_14]; done) | (constructor <;> rw [mo_tell, if_neg h1, if_neg h2, if_neg c_14, hczd]; done)), by show va_P _ _ _ t.heap; rw [ht]; exact hP⟩, hS.F ht⟩) hS.2.2 d_Model_tell_280
                  · have c_14 : (sc 1) = 60 := (nI_eq (a := sc 1) (b := 60) (by omega) (by omega)).mp c_14
                    refine lv_iconst (v := (-1)) hx hb d_Model_tell_185 (by decide) ?_
                    exact W.iret (v := (-1 : Int32)) hx hb hr (fun t ht hW => ⟨⟨(-1 : Int32), (sc, mI, mL, mZ), rfl, by first | (constructor <;> simp [mo_tell, mo_tok, c_2, hczd, c_4, c_6, c_8, c_10, c_12, c_13, c_13n, c_14]; done) | (have h1 : ¬ mo_tok sc mL (nI zd) x kd se v wh = false := (by simp [mo_tok, c_2, hczd, c_4, c_6, c_8, c_10, c_12, c_13, c_13n, c_14]); have h2 : nn_any (mo_te mI mL (nI zd) x kd se v) (sc 1) = true := nn_any_of (k := k) (by omega) (by simp [mo_te, c_2, hczd, c_4, c_6, c_8, c_10, c_12, c_13, c_13n, c_14]; done); constructor <;> rw [mo_tell, if_neg h1, if_pos h2]; done) | (have h1 : ¬ mo_tok sc mL (nI zd) x kd se v wh = false := (by simp [mo_tok, c_2, hczd, c_4, c_6, c_8, c_10, c_12, c_13, c_13n, c_14]); have h2 : ¬ nn_any (mo_te mI mL (nI zd) x kd se v) (sc 1) = true := (by rw [show sc 1 = k by omega, hI]; simp); first | (constructor <;> rw [mo_tell, if_neg h1, if_neg h2, if_pos c_14]; done) | (constructor <;> rw [mo_tell, if_neg h1, if_neg h2, if_neg c_14, hczd]; done)), by show va_P _ _ _ t.heap; rw [ht]; exact hP⟩, hS.F ht⟩) hS.2.2 d_Model_tell_186
                · have c_13 : ¬ (sc 1) ≤ k := fun h9 => c_13 ((nI_leI (a := sc 1) (b := k) (by omega) (by omega)).mpr h9)
                  have c_13n : k < (sc 1) := by omega
                  refine lv_aload_n hx hb d_Model_tell_89 rfl (lv_at hl 1 rfl) ?_
                  refine va_get (D := G.1) (ci := 7) (v := .ref (ad 2)) (C := R_Model) (T := F_Model) (N := 23) hx hb ht i_Model hown hK.1 hP 0 rfl rfl 4 (by decide) (ht _ m_509) (fun _ h9 => h9) rfl d_Model_tell_90 ?_
                  refine lv_iload hx hb d_Model_tell_93 (lv_at hl 0 rfl) ?_
                  refine sy_iald hx hb hK.1 hP 3 0 rfl rfl (k := k) (by omega) (by decide) d_Model_tell_95 ?_
                  refine lv_iload_n hx hb d_Model_tell_96 rfl (lv_at hl 2 rfl) ?_
                  refine lv_icmp_ne (tgt := 170) hx hb d_Model_tell_97 (by decide) (fun c_15 => ?_) (fun c_15 => ?_)
                  · refine lv_iinc (v := nI (k + 1)) (lv' := [(11, .int (nI (k + 1))), (0, .ref ob), (1, .int (nI zd)), (2, .long x), (4, .int kd), (5, .long se), (7, .long v), (9, .long wh)]) hx hb d_Model_tell_170 hl (k := 0) rfl (nI_add k 1) (by decide) rfl (fun ls hl => ?_)
                    refine lv_goto (tgt := 80) hx hb d_Model_tell_173 (by decide) ?_
                    refine ih80 (k + 1) ls (show sc 1 - (k + 1) < sc 1 - k by omega) ?_ (lv_sub hl [0, 1, 2, 3, 4, 5, 6, 7] rfl)
                    exact ⟨by omega, by rw [nn_any, hI]; simp [mo_te, c_2, hczd, c_4, c_6, c_8, c_10, c_12, c_13, c_13n, c_15]⟩
                  · refine lv_aload_n hx hb d_Model_tell_100 rfl (lv_at hl 1 rfl) ?_
                    refine va_get (D := G.1) (ci := 7) (v := .ref (ad 3)) (C := R_Model) (T := F_Model) (N := 23) hx hb ht i_Model hown hK.1 hP 0 rfl rfl 5 (by decide) (ht _ m_510) (fun _ h9 => h9) rfl d_Model_tell_101 ?_
                    refine lv_iload hx hb d_Model_tell_104 (lv_at hl 0 rfl) ?_
                    refine sy_iald hx hb hK.1 hP 4 0 rfl rfl (k := k) (by omega) (by decide) d_Model_tell_106 ?_
                    refine lv_aload_n hx hb d_Model_tell_107 rfl (lv_at hl 1 rfl) ?_
                    refine va_get (D := G.1) (ci := 7) (v := .ref (ad 0)) (C := R_Model) (T := F_Model) (N := 23) hx hb ht i_Model hown hK.1 hP 0 rfl rfl 1 (by decide) (ht _ m_506) (fun _ h9 => h9) rfl d_Model_tell_108 ?_
                    refine lv_iload_n hx hb d_Model_tell_111 rfl (lv_at hl 2 rfl) ?_
                    refine sy_iald hx hb hK.1 hP 1 0 rfl rfl (k := zd) (by omega) (by decide) d_Model_tell_112 ?_
                    refine lv_icmp_ne (tgt := 170) hx hb d_Model_tell_113 (by decide) (fun c_16 => ?_) (fun c_16 => ?_)
                    · refine lv_iinc (v := nI (k + 1)) (lv' := [(11, .int (nI (k + 1))), (0, .ref ob), (1, .int (nI zd)), (2, .long x), (4, .int kd), (5, .long se), (7, .long v), (9, .long wh)]) hx hb d_Model_tell_170 hl (k := 0) rfl (nI_add k 1) (by decide) rfl (fun ls hl => ?_)
                      refine lv_goto (tgt := 80) hx hb d_Model_tell_173 (by decide) ?_
                      refine ih80 (k + 1) ls (show sc 1 - (k + 1) < sc 1 - k by omega) ?_ (lv_sub hl [0, 1, 2, 3, 4, 5, 6, 7] rfl)
                      exact ⟨by omega, by rw [nn_any, hI]; simp [mo_te, c_2, hczd, c_4, c_6, c_8, c_10, c_12, c_13, c_13n, c_15, c_16]⟩
                    · refine lv_aload_n hx hb d_Model_tell_116 rfl (lv_at hl 1 rfl) ?_
                      refine va_get (D := G.1) (ci := 7) (v := .ref (ad 4)) (C := R_Model) (T := F_Model) (N := 23) hx hb ht i_Model hown hK.1 hP 0 rfl rfl 6 (by decide) (ht _ m_511) (fun _ h9 => h9) rfl d_Model_tell_117 ?_
                      refine lv_iload hx hb d_Model_tell_120 (lv_at hl 0 rfl) ?_
                      refine sy_iald hx hb hK.1 hP 5 0 rfl rfl (k := k) (by omega) (by decide) d_Model_tell_122 ?_
                      refine lv_i2l (v := (mI 4 k).toInt64) hx hb d_Model_tell_123 rfl ?_
                      refine lv_lload_n hx hb d_Model_tell_124 rfl (lv_at hl 3 rfl) ?_
                      refine sy_lc_ne (tgt := 170) hx hb d_Model_tell_125 d_Model_tell_126 (by decide) (fun c_17 => ?_) (fun c_17 => ?_)
                      · refine lv_iinc (v := nI (k + 1)) (lv' := [(11, .int (nI (k + 1))), (0, .ref ob), (1, .int (nI zd)), (2, .long x), (4, .int kd), (5, .long se), (7, .long v), (9, .long wh)]) hx hb d_Model_tell_170 hl (k := 0) rfl (nI_add k 1) (by decide) rfl (fun ls hl => ?_)
                        refine lv_goto (tgt := 80) hx hb d_Model_tell_173 (by decide) ?_
                        refine ih80 (k + 1) ls (show sc 1 - (k + 1) < sc 1 - k by omega) ?_ (lv_sub hl [0, 1, 2, 3, 4, 5, 6, 7] rfl)
                        exact ⟨by omega, by rw [nn_any, hI]; simp [mo_te, c_2, hczd, c_4, c_6, c_8, c_10, c_12, c_13, c_13n, c_15, c_16, c_17]⟩
                      · refine lv_aload_n hx hb d_Model_tell_129 rfl (lv_at hl 1 rfl) ?_
                        refine va_get (D := G.1) (ci := 7) (v := .ref (ad 5)) (C := R_Model) (T := F_Model) (N := 23) hx hb ht i_Model hown hK.1 hP 0 rfl rfl 7 (by decide) (ht _ m_512) (fun _ h9 => h9) rfl d_Model_tell_130 ?_
                        refine lv_iload hx hb d_Model_tell_133 (lv_at hl 0 rfl) ?_
                        refine sy_iald hx hb hK.1 hP 6 0 rfl rfl (k := k) (by omega) (by decide) d_Model_tell_135 ?_
                        refine lv_iload hx hb d_Model_tell_136 (lv_at hl 4 rfl) ?_
                        refine lv_icmp_ne (tgt := 170) hx hb d_Model_tell_138 (by decide) (fun c_18 => ?_) (fun c_18 => ?_)
                        · refine lv_iinc (v := nI (k + 1)) (lv' := [(11, .int (nI (k + 1))), (0, .ref ob), (1, .int (nI zd)), (2, .long x), (4, .int kd), (5, .long se), (7, .long v), (9, .long wh)]) hx hb d_Model_tell_170 hl (k := 0) rfl (nI_add k 1) (by decide) rfl (fun ls hl => ?_)
                          refine lv_goto (tgt := 80) hx hb d_Model_tell_173 (by decide) ?_
                          refine ih80 (k + 1) ls (show sc 1 - (k + 1) < sc 1 - k by omega) ?_ (lv_sub hl [0, 1, 2, 3, 4, 5, 6, 7] rfl)
                          exact ⟨by omega, by rw [nn_any, hI]; simp [mo_te, c_2, hczd, c_4, c_6, c_8, c_10, c_12, c_13, c_13n, c_15, c_16, c_17, c_18]⟩
                        · refine lv_aload_n hx hb d_Model_tell_141 rfl (lv_at hl 1 rfl) ?_
                          refine va_get (D := G.1) (ci := 7) (v := .ref (ad 6)) (C := R_Model) (T := F_Model) (N := 23) hx hb ht i_Model hown hK.1 hP 0 rfl rfl 8 (by decide) (ht _ m_513) (fun _ h9 => h9) rfl d_Model_tell_142 ?_
                          refine lv_iload hx hb d_Model_tell_145 (lv_at hl 0 rfl) ?_
                          refine sy_iald hx hb hK.1 hP 7 0 rfl rfl (k := k) (by omega) (by decide) d_Model_tell_147 ?_
                          refine lv_i2l (v := (mI 6 k).toInt64) hx hb d_Model_tell_148 rfl ?_
                          refine lv_lload hx hb d_Model_tell_149 (lv_at hl 5 rfl) ?_
                          refine sy_lc_ne (tgt := 170) hx hb d_Model_tell_151 d_Model_tell_152 (by decide) (fun c_19 => ?_) (fun c_19 => ?_)
                          · refine lv_iinc (v := nI (k + 1)) (lv' := [(11, .int (nI (k + 1))), (0, .ref ob), (1, .int (nI zd)), (2, .long x), (4, .int kd), (5, .long se), (7, .long v), (9, .long wh)]) hx hb d_Model_tell_170 hl (k := 0) rfl (nI_add k 1) (by decide) rfl (fun ls hl => ?_)
                            refine lv_goto (tgt := 80) hx hb d_Model_tell_173 (by decide) ?_
                            refine ih80 (k + 1) ls (show sc 1 - (k + 1) < sc 1 - k by omega) ?_ (lv_sub hl [0, 1, 2, 3, 4, 5, 6, 7] rfl)
                            exact ⟨by omega, by rw [nn_any, hI]; simp [mo_te, c_2, hczd, c_4, c_6, c_8, c_10, c_12, c_13, c_13n, c_15, c_16, c_17, c_18, c_19]⟩
                          · refine lv_aload_n hx hb d_Model_tell_155 rfl (lv_at hl 1 rfl) ?_
                            refine va_get (D := G.1) (ci := 7) (v := .ref (ad 7)) (C := R_Model) (T := F_Model) (N := 23) hx hb ht i_Model hown hK.1 hP 0 rfl rfl 9 (by decide) (ht _ m_514) (fun _ h9 => h9) rfl d_Model_tell_156 ?_
                            refine lv_iload hx hb d_Model_tell_159 (lv_at hl 0 rfl) ?_
                            refine sy_lald hx hb hK.1 hP 8 1 rfl rfl (k := k) (by omega) (by decide) d_Model_tell_161 ?_
                            refine lv_lload hx hb d_Model_tell_162 (lv_at hl 6 rfl) ?_
                            refine sy_lc_ne (tgt := 170) hx hb d_Model_tell_164 d_Model_tell_165 (by decide) (fun c_20 => ?_) (fun c_20 => ?_)
                            · refine lv_iinc (v := nI (k + 1)) (lv' := [(11, .int (nI (k + 1))), (0, .ref ob), (1, .int (nI zd)), (2, .long x), (4, .int kd), (5, .long se), (7, .long v), (9, .long wh)]) hx hb d_Model_tell_170 hl (k := 0) rfl (nI_add k 1) (by decide) rfl (fun ls hl => ?_)
                              refine lv_goto (tgt := 80) hx hb d_Model_tell_173 (by decide) ?_
                              refine ih80 (k + 1) ls (show sc 1 - (k + 1) < sc 1 - k by omega) ?_ (lv_sub hl [0, 1, 2, 3, 4, 5, 6, 7] rfl)
                              exact ⟨by omega, by rw [nn_any, hI]; simp [mo_te, c_2, hczd, c_4, c_6, c_8, c_10, c_12, c_13, c_13n, c_15, c_16, c_17, c_18, c_19, c_20]⟩
                            · refine lv_iconst (v := 0) hx hb d_Model_tell_168 (by decide) ?_
                              exact W.iret (v := (0 : Int32)) hx hb hr (fun t ht hW => ⟨⟨(0 : Int32), (sc, mI, mL, mZ), rfl, by first | (constructor <;> simp [mo_tell, mo_tok, c_2, hczd, c_4, c_6, c_8, c_10, c_12, c_13, c_13n, c_15, c_16, c_17, c_18, c_19, c_20]; done) | (have h1 : ¬ mo_tok sc mL (nI zd) x kd se v wh = false := (by simp [mo_tok, c_2, hczd, c_4, c_6, c_8, c_10, c_12, c_13, c_13n, c_15, c_16, c_17, c_18, c_19, c_20]); have h2 : nn_any (mo_te mI mL (nI zd) x kd se v) (sc 1) = true := nn_any_of (k := k) (by omega) (by simp [mo_te, c_2, hczd, c_4, c_6, c_8, c_10, c_12, c_13, c_13n, c_15, c_16, c_17, c_18, c_19, c_20]; done); constructor <;> rw [mo_tell, if_neg h1, if_pos h2]; done) | (have h1 : ¬ mo_tok sc mL (nI zd) x kd se v wh = false := (by simp [mo_tok, c_2, hczd, c_4, c_6, c_8, c_10, c_12, c_13, c_13n, c_15, c_16, c_17, c_18, c_19, c_20]); have h2 : ¬ nn_any (mo_te mI mL (nI zd) x kd se v) (sc 1) = true := (by rw [show sc 1 = k by omega, hI]; simp); first | (constructor <;> rw [mo_tell, if_neg h1, if_neg h2, if_pos c_20]; done) | (constructor <;> rw [mo_tell, if_neg h1, if_neg h2, if_neg c_20, hczd]; done)), by show va_P _ _ _ t.heap; rw [ht]; exact hP⟩, hS.F ht⟩) hS.2.2 d_Model_tell_169
              · exact ⟨Nat.zero_le _, rfl⟩
            · have c_12 : (mo_in wh (0 : Int64) (1000000 : Int64)) = false := bI_f c_12
              refine lv_iconst (v := (-1)) hx hb d_Model_tell_75 (by decide) ?_
              exact W.iret (v := (-1 : Int32)) hx hb hr (fun t ht hW => ⟨⟨(-1 : Int32), (sc, mI, mL, mZ), rfl, by first | (constructor <;> simp [mo_tell, mo_tok, c_2, hczd, c_4, c_6, c_8, c_10, c_12]; done) | (have h1 : ¬ mo_tok sc mL (nI zd) x kd se v wh = false := (by simp [mo_tok, c_2, hczd, c_4, c_6, c_8, c_10, c_12]); have h2 : nn_any (mo_te mI mL (nI zd) x kd se v) (sc 1) = true := nn_any_of (k := k) (by omega) (by simp [mo_te, c_2, hczd, c_4, c_6, c_8, c_10, c_12]; done); constructor <;> rw [mo_tell, if_neg h1, if_pos h2]; done) | (have h1 : ¬ mo_tok sc mL (nI zd) x kd se v wh = false := (by simp [mo_tok, c_2, hczd, c_4, c_6, c_8, c_10, c_12]); have h2 : ¬ nn_any (mo_te mI mL (nI zd) x kd se v) (sc 1) = true := (by rw [show sc 1 = k by omega, hI]; simp); first | (constructor <;> rw [mo_tell, if_neg h1, if_neg h2, if_pos c_12]; done) | (constructor <;> rw [mo_tell, if_neg h1, if_neg h2, if_neg c_12, hczd]; done)), by show va_P _ _ _ t.heap; rw [ht]; exact hP⟩, hS.F ht⟩) hS.2.2 d_Model_tell_76
set_option maxHeartbeats 4000000 in
set_option maxRecDepth 100000 in
theorem c_Model_set (l : Launch) (G : sy_G) (ob : Nat) (ad : Nat → Nat) (sc : Nat → Nat) (mI : Nat → Nat → Int32) (mL : Nat → Nat → Int64) (mZ : Nat → Nat → Bool) (d : Int32) (hd : sc 0 ≤ 4) (hs : sc 3 ≤ 6) (hn : sc 1 ≤ 60) : Met l y_Model_set (sy_w y_Model_set b_Model_set 3 (some .int)) { frames := 1, cells := 0, slots := 0, locals := 21 } (va_Pc [.ref ob, .int d] (sy_KP G (fun H => va_P G.1 classes (mw G.2 ob ad sc mI mL mZ) H ∧ va_D (fun _ => True) (mw G.2 ob ad sc mI mL mZ)))) (va_Qi (S := ms_S) (fun r u => r = (mo_set sc mI mL mZ d).1 ∧ u = (mo_set sc mI mL mZ d).2) (fun u t => va_P G.1 classes (mw G.2 ob ad u.1 u.2.1 u.2.2.1 u.2.2.2) t.heap) (sy_A (mw G.2 ob ad sc mI mL mZ))) 0 0 (sy_A (mw G.2 ob ad sc mI mL mZ)) := by
  refine Met.ofW (cc := b_Model_set) (maxL := 3) (ret := (some .int)) (by decide) rfl ?_
  intro p e s m args below meth c s₁ B hml hv
  obtain ⟨rfl, ⟨hP, hD0⟩, hK⟩ := hv
  have hx := B.exec
  have hb := B.bytes
  have hr := B.returns
  have hts := atoms_spec (ws := sy_w y_Model_set b_Model_set 3 (some .int)) B.pre
  have ht : ∀ wd ∈ sy_T, wd.before ([.ref ob, .int d] : List Value).toArray s = true := fun wd h => hts wd (List.mem_cons_of_mem _ h)
  have hown : s.vm.findClass R_Model = some m.cls := findClass_of_methodNamed B.named
  have hlocks := B.notSynchronized
  have hD := sy_self hD0
  generalize hAe : sy_A (mw G.2 ob ad sc mI mL mZ) = A at hD ⊢
  have hS : va_S A s.heap s.heap [] := va_S.rf
  have hl := lv_entry ([.ref ob, .int d]) (n := 3) (Nat.le_of_ble_eq_true rfl)
  rw [lg_entry_eq]
  generalize (lg_sl ([.ref ob, .int d]) ++ List.replicate (3 - (lg_sl ([.ref ob, .int d])).length) Slot.unset).toArray = ls at hl ⊢
  have hl : lv_has ls 3 [(0, .ref ob), (1, .int d)] := hl
  refine lv_aload_n hx hb d_Model_set_0 rfl (lv_at hl 0 rfl) ?_
  refine lv_iload_n hx hb d_Model_set_1 rfl (lv_at hl 1 rfl) ?_
  refine vp_callSi (va_Run.run (sy_runV (As := [.int d]) (rest := []) (b := ob) ⟨hx, hb, hml, hown, ht⟩ cl_Model_73 (c_Model_isDevice l G ob ad sc mI mL mZ d (by omega)) hK hP (va_recv hK.1 hP (ci := 7) (q0 := 0) rfl rfl) rfl nm_Model_isDevice rfl rfl ⟨Nat.le_of_ble_eq_true rfl, Nat.le_of_ble_eq_true rfl⟩ hl.1 (Nat.le_of_ble_eq_true rfl) d_Model_set_2 ⟨Nat.zero_le _, Nat.zero_le _⟩)) (fun r_1 hr_1 => ?_)
  subst hr_1
  refine lv_if_eq (tgt := 17) hx hb d_Model_set_5 (by decide) (fun c_2 => ?_) (fun c_2 => ?_)
  · have c_2 : (mo_ok (sc 0) d) = false := bI_f c_2
    refine lv_iconst (v := (-1)) hx hb d_Model_set_17 (by decide) ?_
    exact W.iret (v := (-1 : Int32)) hx hb hr (fun t ht hW => ⟨⟨(-1 : Int32), (sc, mI, mL, mZ), rfl, by first | (constructor <;> simp [mo_set, c_2]; done) | (have e : sc 1 = k := (by omega); constructor <;> simp [mo_set, e, c_2, c_2]; done), by show va_P _ _ _ t.heap; rw [ht]; exact hP⟩, hS.F ht⟩) hS.2.2 d_Model_set_18
  · have c_2 : (mo_ok (sc 0) d) = true := bI_t c_2
    refine lv_aload_n hx hb d_Model_set_8 rfl (lv_at hl 0 rfl) ?_
    refine va_get (D := G.1) (ci := 7) (v := .int (nI (sc 3))) (C := R_Model) (T := F_Model) (N := 23) hx hb ht i_Model hown hK.1 hP 0 rfl rfl 13 (by decide) (ht _ m_518) (fun _ h9 => h9) rfl d_Model_set_9 ?_
    refine lv_bipush (v := 6) hx hb d_Model_set_12 (by decide) ?_
    refine lv_icmp_ne (tgt := 19) hx hb d_Model_set_14 (by decide) (fun c_3 => ?_) (fun c_3 => ?_)
    · have c_3 : ¬ (sc 3) = 6 := fun h9 => c_3 ((nI_eq (a := sc 3) (b := 6) (by omega) (by omega)).mpr h9)
      refine lv_iconst (v := 0) hx hb d_Model_set_19 (by decide) ?_
      refine lv_istore_n (lv' := [(2, .int 0), (0, .ref ob), (1, .int d)]) hx hb d_Model_set_20 rfl hl (by decide) rfl (fun ls hl => ?_)
      refine sy_loopH (σ := Nat) (nL := 3) (fun k => sc 1 - k) (fun k => [(2, .int (nI k)), (0, .ref ob), (1, .int d)]) (fun k H locs => k ≤ sc 1 ∧ va_P G.1 classes (mw G.2 ob ad sc mI mL (va_up mZ 10 (mo_zs sc mI mZ d k))) H ∧ va_D A (mw G.2 ob ad sc mI mL (va_up mZ 10 (mo_zs sc mI mZ d k))) ∧ va_S A s.heap H locs) ?_ 0 ?_ (lv_sub hl [0, 1, 2] rfl)
      · intro k H locs ls hI hl ih21
        have hl : lv_has ls 3 [(2, .int (nI k)), (0, .ref ob), (1, .int d)] := hl
        obtain ⟨hk, hP, hD, hS⟩ := hI
        refine lv_iload_n hx hb d_Model_set_21 rfl (lv_at hl 0 rfl) ?_
        refine lv_aload_n hx hb d_Model_set_22 rfl (lv_at hl 1 rfl) ?_
        refine va_get (D := G.1) (ci := 7) (v := .int (nI (sc 1))) (C := R_Model) (T := F_Model) (N := 23) hx hb ht i_Model hown hK.1 hP 0 rfl rfl 3 (by decide) (ht _ m_508) (fun _ h9 => h9) rfl d_Model_set_23 ?_
        refine lv_icmp_ge (tgt := 64) hx hb d_Model_set_26 (by decide) (fun c_4 => ?_) (fun c_4 => ?_)
        · have c_4 : (sc 1) ≤ k := (nI_leI (a := sc 1) (b := k) (by omega) (by omega)).mp c_4
          have c_4n : ¬ k < (sc 1) := by omega
          refine lv_aload_n hx hb d_Model_set_64 rfl (lv_at hl 1 rfl) ?_
          refine lv_dup hx hb d_Model_set_65 rfl ?_
          refine va_get (D := G.1) (ci := 7) (v := .int (nI (sc 3))) (C := R_Model) (T := F_Model) (N := 23) hx hb ht i_Model hown hK.1 hP 0 rfl rfl 13 (by decide) (ht _ m_518) (fun _ h9 => h9) rfl d_Model_set_66 ?_
          refine lv_iconst (v := 1) hx hb d_Model_set_69 (by decide) ?_
          refine lv_iadd hx hb d_Model_set_70 ?_
          refine sy_ti (y := nI ((sc 3) + 1)) (nI_add (sc 3) 1) ?_
          refine va_put (D := G.1) (ci := 7) (v := .int (nI ((sc 3) + 1))) (ty := .int) (C := R_Model) (T := F_Model) (N := 23) hx hb ht i_Model t_Model t_Model_ok n_Model hown hK.1 hP hD hS 0 rfl rfl 13 (by decide) (ht _ m_518) (fun _ h9 => h9) rfl (by decide +kernel) rfl rfl (Nat.le_of_ble_eq_true rfl) d_Model_set_71 (fun H locs hP hD hS => ?_)
          have hP : va_P G.1 classes (mw G.2 ob ad (va_up sc 3 ((sc 3) + 1)) mI mL (va_up mZ 10 (mo_zs sc mI mZ d k))) H := hP
          have hD : va_D A (mw G.2 ob ad (va_up sc 3 ((sc 3) + 1)) mI mL (va_up mZ 10 (mo_zs sc mI mZ d k))) := hD
          refine lv_aload_n hx hb d_Model_set_74 rfl (lv_at hl 1 rfl) ?_
          refine va_get (D := G.1) (ci := 7) (v := .int (nI ((sc 3) + 1))) (C := R_Model) (T := F_Model) (N := 23) hx hb ht i_Model hown hK.1 hP 0 rfl rfl 13 (by decide) (ht _ m_518) (fun _ h9 => h9) rfl d_Model_set_75 ?_
          refine lv_iconst (v := 1) hx hb d_Model_set_78 (by decide) ?_
          refine lv_isub hx hb d_Model_set_79 ?_
          refine sy_ti (y := nI (((sc 3) + 1) - 1)) (pk_sub (a := (sc 3) + 1) (b := 1) (by omega)) ?_
          exact W.iret (v := nI (((sc 3) + 1) - 1)) hx hb hr (fun t ht hW => ⟨⟨nI (((sc 3) + 1) - 1), (va_up sc 3 ((sc 3) + 1), mI, mL, va_up mZ 10 (mo_zs sc mI mZ d k)), rfl, by first | (constructor <;> simp [mo_set, c_2, c_3, c_4, c_4n]; done) | (have e : sc 1 = k := (by omega); constructor <;> simp [mo_set, e, c_2, c_3, c_4, c_4n, c_4, c_4n]; done), by show va_P _ _ _ t.heap; rw [ht]; exact hP⟩, hS.F ht⟩) hS.2.2 d_Model_set_80
        · have c_4 : ¬ (sc 1) ≤ k := fun h9 => c_4 ((nI_leI (a := sc 1) (b := k) (by omega) (by omega)).mpr h9)
          have c_4n : k < (sc 1) := by omega
          refine lv_aload_n hx hb d_Model_set_29 rfl (lv_at hl 1 rfl) ?_
          refine va_get (D := G.1) (ci := 7) (v := .ref (ad 10)) (C := R_Model) (T := F_Model) (N := 23) hx hb ht i_Model hown hK.1 hP 0 rfl rfl 15 (by decide) (ht _ m_520) (fun _ h9 => h9) rfl d_Model_set_30 ?_
          refine lv_bipush (v := 60) hx hb d_Model_set_33 (by decide) ?_
          refine lv_aload_n hx hb d_Model_set_35 rfl (lv_at hl 1 rfl) ?_
          refine va_get (D := G.1) (ci := 7) (v := .int (nI (sc 3))) (C := R_Model) (T := F_Model) (N := 23) hx hb ht i_Model hown hK.1 hP 0 rfl rfl 13 (by decide) (ht _ m_518) (fun _ h9 => h9) rfl d_Model_set_36 ?_
          refine lv_imul hx hb d_Model_set_39 ?_
          refine sy_ti (y := nI (60 * (sc 3))) (pk_mul 60 (sc 3)) ?_
          refine lv_iload_n hx hb d_Model_set_40 rfl (lv_at hl 0 rfl) ?_
          refine lv_iadd hx hb d_Model_set_41 ?_
          refine sy_ti (y := nI ((60 * (sc 3)) + k)) (nI_add (60 * (sc 3)) k) ?_
          refine lv_aload_n hx hb d_Model_set_42 rfl (lv_at hl 1 rfl) ?_
          refine va_get (D := G.1) (ci := 7) (v := .ref (ad 2)) (C := R_Model) (T := F_Model) (N := 23) hx hb ht i_Model hown hK.1 hP 0 rfl rfl 4 (by decide) (ht _ m_509) (fun _ h9 => h9) rfl d_Model_set_43 ?_
          refine lv_iload_n hx hb d_Model_set_46 rfl (lv_at hl 0 rfl) ?_
          refine sy_iald hx hb hK.1 hP 3 0 rfl rfl (k := k) (by omega) (by decide) d_Model_set_47 ?_
          refine sy_ti (y := mI 2 k) rfl ?_
          refine lv_iload_n hx hb d_Model_set_48 rfl (lv_at hl 2 rfl) ?_
          refine lv_icmp_ne (tgt := 56) hx hb d_Model_set_49 (by decide) (fun c_5 => ?_) (fun c_5 => ?_)
          · refine lv_iconst (v := 0) hx hb d_Model_set_56 (by decide) ?_
            refine sy_zast hx hb hK.1 hP hD hS 11 2 rfl rfl (k := (60 * (sc 3)) + k) (b := false) (by omega) (by decide) d_Model_set_57 (fun H locs hP hD hS => ?_)
            rw [show (va_up mZ 10 (mo_zs sc mI mZ d k)) 10 = mo_zs sc mI mZ d k from rfl, mw_s10, bx_uu] at hP hD
            refine lv_iinc (v := nI (k + 1)) (lv' := [(2, .int (nI (k + 1))), (0, .ref ob), (1, .int d)]) hx hb d_Model_set_58 hl (k := 0) rfl (nI_add k 1) (by decide) rfl (fun ls hl => ?_)
            refine lv_goto (tgt := 21) hx hb d_Model_set_61 (by decide) ?_
            refine ih21 (k + 1) _ _ ls (show sc 1 - (k + 1) < sc 1 - k by omega) ?_ (lv_sub hl [0, 1, 2] rfl)
            exact ⟨by omega, by have e : mo_zs sc mI mZ d (k + 1) = (va_up (mo_zs sc mI mZ d k) ((60 * (sc 3)) + k) false) := (by simp [mo_zs, c_4, c_4n, c_5]); rw [e]; exact hP, by have e : mo_zs sc mI mZ d (k + 1) = (va_up (mo_zs sc mI mZ d k) ((60 * (sc 3)) + k) false) := (by simp [mo_zs, c_4, c_4n, c_5]); rw [e]; exact hD, hS⟩
          · refine lv_iconst (v := 1) hx hb d_Model_set_52 (by decide) ?_
            refine lv_goto (tgt := 57) hx hb d_Model_set_53 (by decide) ?_
            refine sy_zast hx hb hK.1 hP hD hS 11 2 rfl rfl (k := (60 * (sc 3)) + k) (b := true) (by omega) (by decide) d_Model_set_57 (fun H locs hP hD hS => ?_)
            rw [show (va_up mZ 10 (mo_zs sc mI mZ d k)) 10 = mo_zs sc mI mZ d k from rfl, mw_s10, bx_uu] at hP hD
            refine lv_iinc (v := nI (k + 1)) (lv' := [(2, .int (nI (k + 1))), (0, .ref ob), (1, .int d)]) hx hb d_Model_set_58 hl (k := 0) rfl (nI_add k 1) (by decide) rfl (fun ls hl => ?_)
            refine lv_goto (tgt := 21) hx hb d_Model_set_61 (by decide) ?_
            refine ih21 (k + 1) _ _ ls (show sc 1 - (k + 1) < sc 1 - k by omega) ?_ (lv_sub hl [0, 1, 2] rfl)
            exact ⟨by omega, by have e : mo_zs sc mI mZ d (k + 1) = (va_up (mo_zs sc mI mZ d k) ((60 * (sc 3)) + k) true) := (by simp [mo_zs, c_4, c_4n, c_5]); rw [e]; exact hP, by have e : mo_zs sc mI mZ d (k + 1) = (va_up (mo_zs sc mI mZ d k) ((60 * (sc 3)) + k) true) := (by simp [mo_zs, c_4, c_4n, c_5]); rw [e]; exact hD, hS⟩
      · exact ⟨Nat.zero_le _, hP, hD, hS⟩
    · have c_3 : (sc 3) = 6 := (nI_eq (a := sc 3) (b := 6) (by omega) (by omega)).mp c_3
      refine lv_iconst (v := (-1)) hx hb d_Model_set_17 (by decide) ?_
      exact W.iret (v := (-1 : Int32)) hx hb hr (fun t ht hW => ⟨⟨(-1 : Int32), (sc, mI, mL, mZ), rfl, by first | (constructor <;> simp [mo_set, c_2, c_3]; done) | (have e : sc 1 = k := (by omega); constructor <;> simp [mo_set, e, c_2, c_3, c_2, c_3]; done), by show va_P _ _ _ t.heap; rw [ht]; exact hP⟩, hS.F ht⟩) hS.2.2 d_Model_set_18
