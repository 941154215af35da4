set_option maxHeartbeats 4000000 in
set_option maxRecDepth 100000 in
theorem c_DeviceSets_joinN (l : Launch) (G : sy_G) (g : Nat → Nat) (nd : Nat) (ns : Nat) (nb : Nat) (d : Int32) (dv : Int32) (hq : ¬ (mo_ok ns d = true ∧ mo_ok ns dv = true)) (hs : ns ≤ 6) : Met l y_DeviceSets_join (sy_w y_DeviceSets_join b_DeviceSets_join 5 (some .int)) { frames := 5, cells := 0, slots := 0, locals := 120 } (va_Pc [.ref (g 0), .int d, .int dv] (sy_KP G (va_P G.1 classes (xw G.2 g nd ns nb)))) (vp_Si (fun r => r = (-1 : Int32))) 0 0 (fun _ => False) := by
  refine Met.ofW (cc := b_DeviceSets_join) (maxL := 5) (ret := (some .int)) (by decide) rfl ?_
  intro p e s m args below meth c s₁ B hml hv
  obtain ⟨rfl, hP, hK⟩ := hv
  have hx := B.exec
  have hb := B.bytes
  have hr := B.returns
  have hts := atoms_spec (ws := sy_w y_DeviceSets_join b_DeviceSets_join 5 (some .int)) B.pre
  have ht : ∀ wd ∈ sy_T, wd.before ([.ref (g 0), .int d, .int dv] : List Value).toArray s = true := fun wd h => hts wd (List.mem_cons_of_mem _ h)
  have hown : s.vm.findClass R_DeviceSets = some m.cls := findClass_of_methodNamed B.named
  have hlocks := B.notSynchronized
  have hl := lv_entry ([.ref (g 0), .int d, .int dv]) (n := 5) (Nat.le_of_ble_eq_true rfl)
  rw [lg_entry_eq]
  generalize (lg_sl ([.ref (g 0), .int d, .int dv]) ++ List.replicate (5 - (lg_sl ([.ref (g 0), .int d, .int dv])).length) Slot.unset).toArray = ls at hl ⊢
  have hl : lv_has ls 5 [(0, .ref (g 0)), (1, .int d), (2, .int dv)] := hl
  refine lv_aload_n hx hb d_DeviceSets_join_0 rfl (lv_at hl 0 rfl) ?_
  refine lv_iload_n hx hb d_DeviceSets_join_1 rfl (lv_at hl 1 rfl) ?_
  refine va_csq (va_Run.run (sy_runV (As := [.int d]) (rest := []) (b := (g 0)) ⟨hx, hb, hml, hown, ht⟩ cl_DeviceSets_80 (c_DeviceSets_setAt l G g nd ns nb d (by omega)) hK hP (va_recv hK.1 hP (ci := 0) (q0 := 0) rfl rfl) rfl nm_DeviceSets_setAt rfl rfl ⟨Nat.le_of_ble_eq_true rfl, Nat.le_of_ble_eq_true rfl⟩ hl.1 (Nat.le_of_ble_eq_true rfl) d_DeviceSets_join_2 ⟨Nat.zero_le _, Nat.zero_le _⟩)) (fun r_1 hr_1 => ?_)
  by_cases hq_2 : mo_ok ns d = true
  · have hr_1 : r_1 = some (g (40 + 3 * d.toNatClampNeg)) := by rw [hr_1, xa_at, if_pos hq_2]
    subst hr_1
    refine sy_tr (y := .ref (g (40 + 3 * d.toNatClampNeg))) rfl ?_
    refine lv_astore_n (lv' := [(3, .ref (g (40 + 3 * d.toNatClampNeg))), (0, .ref (g 0)), (1, .int d), (2, .int dv)]) hx hb d_DeviceSets_join_5 rfl hl (by decide) rfl (fun ls hl => ?_)
    refine lv_aload_n hx hb d_DeviceSets_join_6 rfl (lv_at hl 1 rfl) ?_
    refine lv_iload_n hx hb d_DeviceSets_join_7 rfl (lv_at hl 3 rfl) ?_
    refine va_csq (va_Run.run (sy_runV (As := [.int dv]) (rest := []) (b := (g 0)) ⟨hx, hb, hml, hown, ht⟩ cl_DeviceSets_80 (c_DeviceSets_setAt l G g nd ns nb dv (by omega)) hK hP (va_recv hK.1 hP (ci := 0) (q0 := 0) rfl rfl) rfl nm_DeviceSets_setAt rfl rfl ⟨Nat.le_of_ble_eq_true rfl, Nat.le_of_ble_eq_true rfl⟩ hl.1 (Nat.le_of_ble_eq_true rfl) d_DeviceSets_join_8 ⟨Nat.zero_le _, Nat.zero_le _⟩)) (fun r_3 hr_3 => ?_)
    by_cases hq_4 : mo_ok ns dv = true
    · exact absurd ⟨hq_2, hq_4⟩ hq
    · have hr_3 : r_3 = none := by rw [hr_3, xa_at, if_neg hq_4]
      subst hr_3
      refine sy_tr (y := .null) rfl ?_
      refine lv_astoreN (lv' := [(4, .null), (3, .ref (g (40 + 3 * d.toNatClampNeg))), (0, .ref (g 0)), (1, .int d), (2, .int dv)]) hx hb d_DeviceSets_join_11 hl (by decide) rfl (fun ls hl => ?_)
      refine lv_aload_n hx hb d_DeviceSets_join_13 rfl (lv_at hl 1 rfl) ?_
      refine lv_ifnull hx hb d_DeviceSets_join_14 ?_
      refine lv_aloadN hx hb d_DeviceSets_join_17 (lv_at hl 0 rfl) ?_
      refine lv_ifnonnullN hx hb d_DeviceSets_join_19 ?_
      refine lv_iconst (v := (-1)) hx hb d_DeviceSets_join_22 (by decide) ?_
      exact W.iret (v := (-1 : Int32)) hx hb hr (fun t ht hW => ⟨(-1 : Int32), rfl, rfl, ht⟩) (fun q h => by cases h) d_DeviceSets_join_23
  · have hr_1 : r_1 = none := by rw [hr_1, xa_at, if_neg hq_2]
    subst hr_1
    refine sy_tr (y := .null) rfl ?_
    refine lv_astore_nN (lv' := [(3, .null), (0, .ref (g 0)), (1, .int d), (2, .int dv)]) hx hb d_DeviceSets_join_5 rfl hl (by decide) rfl (fun ls hl => ?_)
    refine lv_aload_n hx hb d_DeviceSets_join_6 rfl (lv_at hl 1 rfl) ?_
    refine lv_iload_n hx hb d_DeviceSets_join_7 rfl (lv_at hl 3 rfl) ?_
    refine va_csq (va_Run.run (sy_runV (As := [.int dv]) (rest := []) (b := (g 0)) ⟨hx, hb, hml, hown, ht⟩ cl_DeviceSets_80 (c_DeviceSets_setAt l G g nd ns nb dv (by omega)) hK hP (va_recv hK.1 hP (ci := 0) (q0 := 0) rfl rfl) rfl nm_DeviceSets_setAt rfl rfl ⟨Nat.le_of_ble_eq_true rfl, Nat.le_of_ble_eq_true rfl⟩ hl.1 (Nat.le_of_ble_eq_true rfl) d_DeviceSets_join_8 ⟨Nat.zero_le _, Nat.zero_le _⟩)) (fun r_5 hr_5 => ?_)
    by_cases hq_6 : mo_ok ns dv = true
    · have hr_5 : r_5 = some (g (40 + 3 * dv.toNatClampNeg)) := by rw [hr_5, xa_at, if_pos hq_6]
      subst hr_5
      refine sy_tr (y := .ref (g (40 + 3 * dv.toNatClampNeg))) rfl ?_
      refine lv_astore (lv' := [(4, .ref (g (40 + 3 * dv.toNatClampNeg))), (3, .null), (0, .ref (g 0)), (1, .int d), (2, .int dv)]) hx hb d_DeviceSets_join_11 hl (by decide) rfl (fun ls hl => ?_)
      refine lv_aload_nN hx hb d_DeviceSets_join_13 rfl (lv_at hl 1 rfl) ?_
      refine lv_ifnullN (tgt := 22) hx hb d_DeviceSets_join_14 (by decide) ?_
      refine lv_iconst (v := (-1)) hx hb d_DeviceSets_join_22 (by decide) ?_
      exact W.iret (v := (-1 : Int32)) hx hb hr (fun t ht hW => ⟨(-1 : Int32), rfl, rfl, ht⟩) (fun q h => by cases h) d_DeviceSets_join_23
    · have hr_5 : r_5 = none := by rw [hr_5, xa_at, if_neg hq_6]
      subst hr_5
      refine sy_tr (y := .null) rfl ?_
      refine lv_astoreN (lv' := [(4, .null), (3, .null), (0, .ref (g 0)), (1, .int d), (2, .int dv)]) hx hb d_DeviceSets_join_11 hl (by decide) rfl (fun ls hl => ?_)
      refine lv_aload_nN hx hb d_DeviceSets_join_13 rfl (lv_at hl 1 rfl) ?_
      refine lv_ifnullN (tgt := 22) hx hb d_DeviceSets_join_14 (by decide) ?_
      refine lv_iconst (v := (-1)) hx hb d_DeviceSets_join_22 (by decide) ?_
      exact W.iret (v := (-1 : Int32)) hx hb hr (fun t ht hW => ⟨(-1 : Int32), rfl, rfl, ht⟩) (fun q h => by cases h) d_DeviceSets_join_23
set_option maxHeartbeats 4000000 in
set_option maxRecDepth 100000 in
theorem c_DeviceSets_correctN (l : Launch) (G : sy_G) (g : Nat → Nat) (nd : Nat) (ns : Nat) (nb : Nat) (d : Int32) (dv : Int32) (kd : Int32) (se : Int64) (v : Int64) (wh : Int64) (hq : ¬ (mo_ok ns d = true ∧ mo_ok nd dv = true)) (hs : ns ≤ 6) (hd : nd ≤ 4) : Met l y_DeviceSets_correct (sy_w y_DeviceSets_correct b_DeviceSets_correct 12 (some .boolean)) { frames := 2, cells := 0, slots := 0, locals := 54 } (va_Pc [.ref (g 0), .int d, .int dv, .int kd, .long se, .long v, .long wh] (sy_KP G (va_P G.1 classes (xw G.2 g nd ns nb)))) (vp_Si (fun r => r = bI (false))) 0 0 (fun _ => False) := by
  refine Met.ofW (cc := b_DeviceSets_correct) (maxL := 12) (ret := (some .boolean)) (by decide) rfl ?_
  intro p e s m args below meth c s₁ B hml hv
  obtain ⟨rfl, hP, hK⟩ := hv
  have hx := B.exec
  have hb := B.bytes
  have hr := B.returns
  have hts := atoms_spec (ws := sy_w y_DeviceSets_correct b_DeviceSets_correct 12 (some .boolean)) B.pre
  have ht : ∀ wd ∈ sy_T, wd.before ([.ref (g 0), .int d, .int dv, .int kd, .long se, .long v, .long wh] : List Value).toArray s = true := fun wd h => hts wd (List.mem_cons_of_mem _ h)
  have hown : s.vm.findClass R_DeviceSets = some m.cls := findClass_of_methodNamed B.named
  have hlocks := B.notSynchronized
  have hl := lv_entry ([.ref (g 0), .int d, .int dv, .int kd, .long se, .long v, .long wh]) (n := 12) (Nat.le_of_ble_eq_true rfl)
  rw [lg_entry_eq]
  generalize (lg_sl ([.ref (g 0), .int d, .int dv, .int kd, .long se, .long v, .long wh]) ++ List.replicate (12 - (lg_sl ([.ref (g 0), .int d, .int dv, .int kd, .long se, .long v, .long wh])).length) Slot.unset).toArray = ls at hl ⊢
  have hl : lv_has ls 12 [(0, .ref (g 0)), (1, .int d), (2, .int dv), (3, .int kd), (4, .long se), (6, .long v), (8, .long wh)] := hl
  refine lv_aload_n hx hb d_DeviceSets_correct_0 rfl (lv_at hl 0 rfl) ?_
  refine lv_iload_n hx hb d_DeviceSets_correct_1 rfl (lv_at hl 1 rfl) ?_
  refine va_csq (va_Run.run (sy_runV (As := [.int d]) (rest := []) (b := (g 0)) ⟨hx, hb, hml, hown, ht⟩ cl_DeviceSets_80 (c_DeviceSets_setAt l G g nd ns nb d (by omega)) hK hP (va_recv hK.1 hP (ci := 0) (q0 := 0) rfl rfl) rfl nm_DeviceSets_setAt rfl rfl ⟨Nat.le_of_ble_eq_true rfl, Nat.le_of_ble_eq_true rfl⟩ hl.1 (Nat.le_of_ble_eq_true rfl) d_DeviceSets_correct_2 ⟨Nat.zero_le _, Nat.zero_le _⟩)) (fun r_1 hr_1 => ?_)
  by_cases hq_2 : mo_ok ns d = true
  · have hr_1 : r_1 = some (g (40 + 3 * d.toNatClampNeg)) := by rw [hr_1, xa_at, if_pos hq_2]
    subst hr_1
    refine sy_tr (y := .ref (g (40 + 3 * d.toNatClampNeg))) rfl ?_
    refine lv_astore (lv' := [(10, .ref (g (40 + 3 * d.toNatClampNeg))), (0, .ref (g 0)), (1, .int d), (2, .int dv), (3, .int kd), (4, .long se), (6, .long v), (8, .long wh)]) hx hb d_DeviceSets_correct_5 hl (by decide) rfl (fun ls hl => ?_)
    refine lv_aload hx hb d_DeviceSets_correct_7 (lv_at hl 0 rfl) ?_
    refine lv_ifnull hx hb d_DeviceSets_correct_9 ?_
    refine lv_aload_n hx hb d_DeviceSets_correct_12 rfl (lv_at hl 1 rfl) ?_
    refine lv_iload_n hx hb d_DeviceSets_correct_13 rfl (lv_at hl 3 rfl) ?_
    refine va_csq (va_Run.run (sy_runV (As := [.int dv]) (rest := []) (b := (g 0)) ⟨hx, hb, hml, hown, ht⟩ cl_DeviceSets_40 (c_DeviceSets_deviceAt l G g nd ns nb dv (by omega)) hK hP (va_recv hK.1 hP (ci := 0) (q0 := 0) rfl rfl) rfl nm_DeviceSets_deviceAt rfl rfl ⟨Nat.le_of_ble_eq_true rfl, Nat.le_of_ble_eq_true rfl⟩ hl.1 (Nat.le_of_ble_eq_true rfl) d_DeviceSets_correct_14 ⟨Nat.zero_le _, Nat.zero_le _⟩)) (fun r_3 hr_3 => ?_)
    by_cases hq_4 : mo_ok nd dv = true
    · exact absurd ⟨hq_2, hq_4⟩ hq
    · have hr_3 : r_3 = none := by rw [hr_3, xa_at, if_neg hq_4]
      subst hr_3
      refine sy_tr (y := .null) rfl ?_
      refine lv_ifnullN (tgt := 27) hx hb d_DeviceSets_correct_17 (by decide) ?_
      refine lv_iconst (v := 0) hx hb d_DeviceSets_correct_27 (by decide) ?_
      exact W.zret (v := (0 : Int32)) hx hb hr (rfl) (fun t ht hW => ⟨(0 : Int32), rfl, by simp [bI], ht⟩) (fun q h => by cases h) d_DeviceSets_correct_28
  · have hr_1 : r_1 = none := by rw [hr_1, xa_at, if_neg hq_2]
    subst hr_1
    refine sy_tr (y := .null) rfl ?_
    refine lv_astoreN (lv' := [(10, .null), (0, .ref (g 0)), (1, .int d), (2, .int dv), (3, .int kd), (4, .long se), (6, .long v), (8, .long wh)]) hx hb d_DeviceSets_correct_5 hl (by decide) rfl (fun ls hl => ?_)
    refine lv_aloadN hx hb d_DeviceSets_correct_7 (lv_at hl 0 rfl) ?_
    refine lv_ifnullN (tgt := 27) hx hb d_DeviceSets_correct_9 (by decide) ?_
    refine lv_iconst (v := 0) hx hb d_DeviceSets_correct_27 (by decide) ?_
    exact W.zret (v := (0 : Int32)) hx hb hr (rfl) (fun t ht hW => ⟨(0 : Int32), rfl, by simp [bI], ht⟩) (fun q h => by cases h) d_DeviceSets_correct_28
set_option maxHeartbeats 4000000 in
set_option maxRecDepth 100000 in
theorem c_DeviceSets_setN (l : Launch) (G : sy_G) (g : Nat → Nat) (nd : Nat) (ns : Nat) (nb : Nat) (d : Int32) (hq : 6 ≤ ns ∨ mo_ok nd d = false) (hs : ns ≤ 6) (hd : nd ≤ 4) : Met l y_DeviceSets_set (sy_w y_DeviceSets_set b_DeviceSets_set 2 (some .int)) { frames := 3, cells := 0, slots := 0, locals := 66 } (va_Pc [.ref (g 0), .int d] (sy_KP G (va_P G.1 classes (xw G.2 g nd ns nb)))) (vp_Si (fun r => r = (-1 : Int32))) 0 0 (fun _ => False) := by
  refine Met.ofW (cc := b_DeviceSets_set) (maxL := 2) (ret := (some .int)) (by decide) rfl ?_
  intro p e s m args below meth c s₁ B hml hv
  obtain ⟨rfl, hP, hK⟩ := hv
  have hx := B.exec
  have hb := B.bytes
  have hr := B.returns
  have hts := atoms_spec (ws := sy_w y_DeviceSets_set b_DeviceSets_set 2 (some .int)) B.pre
  have ht : ∀ wd ∈ sy_T, wd.before ([.ref (g 0), .int d] : List Value).toArray s = true := fun wd h => hts wd (List.mem_cons_of_mem _ h)
  have hown : s.vm.findClass R_DeviceSets = some m.cls := findClass_of_methodNamed B.named
  have hlocks := B.notSynchronized
  have hl := lv_entry ([.ref (g 0), .int d]) (n := 2) (Nat.le_of_ble_eq_true rfl)
  rw [lg_entry_eq]
  generalize (lg_sl ([.ref (g 0), .int d]) ++ List.replicate (2 - (lg_sl ([.ref (g 0), .int d])).length) Slot.unset).toArray = ls at hl ⊢
  have hl : lv_has ls 2 [(0, .ref (g 0)), (1, .int d)] := hl
  refine lv_aload_n hx hb d_DeviceSets_set_0 rfl (lv_at hl 0 rfl) ?_
  refine va_get (D := G.1) (ci := 0) (v := .int (nI ns)) (C := R_DeviceSets) (T := F_DeviceSets) (N := 7) hx hb ht i_DeviceSets hown hK.1 hP 0 rfl rfl 5 (by decide) (ht _ m_118) (fun _ h9 => h9) rfl d_DeviceSets_set_1 ?_
  refine lv_bipush (v := 6) hx hb d_DeviceSets_set_4 (by decide) ?_
  refine lv_icmp_ge (tgt := 17) hx hb d_DeviceSets_set_6 (by decide) (fun c_1 => ?_) (fun c_1 => ?_)
  · have c_1 : 6 ≤ ns := (nI_leI (a := 6) (b := ns) (by omega) (by omega)).mp c_1
    have c_1n : ¬ ns < 6 := by omega
    refine lv_iconst (v := (-1)) hx hb d_DeviceSets_set_17 (by decide) ?_
    exact W.iret (v := (-1 : Int32)) hx hb hr (fun t ht hW => ⟨(-1 : Int32), rfl, rfl, ht⟩) (fun q h => by cases h) d_DeviceSets_set_18
  · have c_1 : ¬ 6 ≤ ns := fun h9 => c_1 ((nI_leI (a := 6) (b := ns) (by omega) (by omega)).mpr h9)
    have c_1n : ns < 6 := by omega
    refine lv_aload_n hx hb d_DeviceSets_set_9 rfl (lv_at hl 0 rfl) ?_
    refine lv_iload_n hx hb d_DeviceSets_set_10 rfl (lv_at hl 1 rfl) ?_
    refine va_csq (va_Run.run (sy_runV (As := [.int d]) (rest := []) (b := (g 0)) ⟨hx, hb, hml, hown, ht⟩ cl_DeviceSets_40 (c_DeviceSets_deviceAt l G g nd ns nb d (by omega)) hK hP (va_recv hK.1 hP (ci := 0) (q0 := 0) rfl rfl) rfl nm_DeviceSets_deviceAt rfl rfl ⟨Nat.le_of_ble_eq_true rfl, Nat.le_of_ble_eq_true rfl⟩ hl.1 (Nat.le_of_ble_eq_true rfl) d_DeviceSets_set_11 ⟨Nat.zero_le _, Nat.zero_le _⟩)) (fun r_2 hr_2 => ?_)
    by_cases hq_3 : mo_ok nd d = true
    · have hr_2 : r_2 = some (g (20 + 4 * d.toNatClampNeg)) := by rw [hr_2, xa_at, if_pos hq_3]
      subst hr_2
      refine sy_tr (y := .ref (g (20 + 4 * d.toNatClampNeg))) rfl ?_
      refine lv_ifnonnull (tgt := 19) hx hb d_DeviceSets_set_14 (by decide) ?_
      exfalso; rcases hq with h9 | h9 <;> first | omega | (simp_all; done)
    · have hr_2 : r_2 = none := by rw [hr_2, xa_at, if_neg hq_3]
      subst hr_2
      refine sy_tr (y := .null) rfl ?_
      refine lv_ifnonnullN hx hb d_DeviceSets_set_14 ?_
      refine lv_iconst (v := (-1)) hx hb d_DeviceSets_set_17 (by decide) ?_
      exact W.iret (v := (-1 : Int32)) hx hb hr (fun t ht hW => ⟨(-1 : Int32), rfl, rfl, ht⟩) (fun q h => by cases h) d_DeviceSets_set_18
set_option maxHeartbeats 4000000 in
set_option maxRecDepth 100000 in
theorem c_DeviceSets_deviceN (l : Launch) (G : sy_G) (g : Nat → Nat) (nd : Nat) (ns : Nat) (nb : Nat) (hq : 4 ≤ nd) (hd : nd ≤ 4) : Met l y_DeviceSets_device (sy_w y_DeviceSets_device b_DeviceSets_device 1 (some .int)) { frames := 3, cells := 0, slots := 0, locals := 64 } (va_Pc [.ref (g 0)] (sy_KP G (va_P G.1 classes (xw G.2 g nd ns nb)))) (vp_Si (fun r => r = (-1 : Int32))) 0 0 (fun _ => False) := by
  refine Met.ofW (cc := b_DeviceSets_device) (maxL := 1) (ret := (some .int)) (by decide) rfl ?_
  intro p e s m args below meth c s₁ B hml hv
  obtain ⟨rfl, hP, hK⟩ := hv
  have hx := B.exec
  have hb := B.bytes
  have hr := B.returns
  have hts := atoms_spec (ws := sy_w y_DeviceSets_device b_DeviceSets_device 1 (some .int)) B.pre
  have ht : ∀ wd ∈ sy_T, wd.before ([.ref (g 0)] : List Value).toArray s = true := fun wd h => hts wd (List.mem_cons_of_mem _ h)
  have hown : s.vm.findClass R_DeviceSets = some m.cls := findClass_of_methodNamed B.named
  have hlocks := B.notSynchronized
  have hl := lv_entry ([.ref (g 0)]) (n := 1) (Nat.le_of_ble_eq_true rfl)
  rw [lg_entry_eq]
  generalize (lg_sl ([.ref (g 0)]) ++ List.replicate (1 - (lg_sl ([.ref (g 0)])).length) Slot.unset).toArray = ls at hl ⊢
  have hl : lv_has ls 1 [(0, .ref (g 0))] := hl
  refine lv_aload_n hx hb d_DeviceSets_device_0 rfl (lv_at hl 0 rfl) ?_
  refine va_get (D := G.1) (ci := 0) (v := .int (nI nd)) (C := R_DeviceSets) (T := F_DeviceSets) (N := 7) hx hb ht i_DeviceSets hown hK.1 hP 0 rfl rfl 4 (by decide) (ht _ m_117) (fun _ h9 => h9) rfl d_DeviceSets_device_1 ?_
  refine lv_iconst (v := 4) hx hb d_DeviceSets_device_4 (by decide) ?_
  refine lv_icmp_lt (tgt := 10) hx hb d_DeviceSets_device_5 (by decide) (fun c_1 => ?_) (fun c_1 => ?_)
  · have c_1 : nd < 4 := (nI_ltI (a := nd) (b := 4) (by omega) (by omega)).mp c_1
    have c_1n : ¬ 4 ≤ nd := by omega
    exfalso; omega
  · have c_1 : ¬ nd < 4 := fun h9 => c_1 ((nI_ltI (a := nd) (b := 4) (by omega) (by omega)).mpr h9)
    have c_1n : 4 ≤ nd := by omega
    refine lv_iconst (v := (-1)) hx hb d_DeviceSets_device_8 (by decide) ?_
    exact W.iret (v := (-1 : Int32)) hx hb hr (fun t ht hW => ⟨(-1 : Int32), rfl, rfl, ht⟩) (fun q h => by cases h) d_DeviceSets_device_9
set_option maxHeartbeats 4000000 in
set_option maxRecDepth 100000 in
theorem c_DeviceSets_endBatchN (l : Launch) (G : sy_G) (g : Nat → Nat) (nd : Nat) (ns : Nat) (nb : Nat) (so : Nat → Int32) (sh : Nat → Nat → Int64) (sv : Nat → Nat → Int64) (b : Int32) (hq : b < 0 ∨ nn_ff (fun i => decide (so i = b)) ns = none) (hs : ns ≤ 6) : Met l y_DeviceSets_endBatch (sy_w y_DeviceSets_endBatch b_DeviceSets_endBatch 4 (some .boolean)) { frames := 3, cells := 0, slots := 0, locals := 66 } (va_Pc [.ref (g 0), .int b] (sy_KP G (fun H => (va_P G.1 classes (xw G.2 g nd ns nb)) H ∧ (∀ j, j < ns → va_P G.1 classes (sw g so sh sv j) H)))) (vp_Si (fun r => r = bI (false))) 0 0 (fun _ => False) := by
  refine Met.ofW (cc := b_DeviceSets_endBatch) (maxL := 4) (ret := (some .boolean)) (by decide) rfl ?_
  intro p e s m args below meth c s₁ B hml hv
  obtain ⟨rfl, ⟨hP, hPS⟩, hK⟩ := hv
  have hx := B.exec
  have hb := B.bytes
  have hr := B.returns
  have hts := atoms_spec (ws := sy_w y_DeviceSets_endBatch b_DeviceSets_endBatch 4 (some .boolean)) B.pre
  have ht : ∀ wd ∈ sy_T, wd.before ([.ref (g 0), .int b] : List Value).toArray s = true := fun wd h => hts wd (List.mem_cons_of_mem _ h)
  have hown : s.vm.findClass R_DeviceSets = some m.cls := findClass_of_methodNamed B.named
  have hlocks := B.notSynchronized
  have hl := lv_entry ([.ref (g 0), .int b]) (n := 4) (Nat.le_of_ble_eq_true rfl)
  rw [lg_entry_eq]
  generalize (lg_sl ([.ref (g 0), .int b]) ++ List.replicate (4 - (lg_sl ([.ref (g 0), .int b])).length) Slot.unset).toArray = ls at hl ⊢
  have hl : lv_has ls 4 [(0, .ref (g 0)), (1, .int b)] := hl
  refine lv_iload_n hx hb d_DeviceSets_endBatch_0 rfl (lv_at hl 1 rfl) ?_
  refine lv_if_ge (tgt := 6) hx hb d_DeviceSets_endBatch_1 (by decide) (fun c_1 => ?_) (fun c_1 => ?_)
  · have c_1n := sy_c32 c_1
    refine lv_iconst (v := 0) hx hb d_DeviceSets_endBatch_6 (by decide) ?_
    refine lv_istore_n (lv' := [(2, .int 0), (0, .ref (g 0)), (1, .int b)]) hx hb d_DeviceSets_endBatch_7 rfl hl (by decide) rfl (fun ls hl => ?_)
    refine sy_loop (σ := Nat) (nL := 4) (fun k => ns - k) (fun k => [(2, .int (nI k)), (0, .ref (g 0)), (1, .int b)]) (fun k => k ≤ ns) ?_ 0 ?_ (lv_sub hl [0, 1, 2] rfl)
    · intro k ls hI hl ih8
      have hl : lv_has ls 4 [(2, .int (nI k)), (0, .ref (g 0)), (1, .int b)] := hl
      obtain hk := hI
      refine lv_iload_n hx hb d_DeviceSets_endBatch_8 rfl (lv_at hl 0 rfl) ?_
      refine lv_aload_n hx hb d_DeviceSets_endBatch_9 rfl (lv_at hl 1 rfl) ?_
      refine va_get (D := G.1) (ci := 0) (v := .int (nI ns)) (C := R_DeviceSets) (T := F_DeviceSets) (N := 7) hx hb ht i_DeviceSets hown hK.1 hP 0 rfl rfl 5 (by decide) (ht _ m_118) (fun _ h9 => h9) rfl d_DeviceSets_endBatch_10 ?_
      refine lv_icmp_ge (tgt := 46) hx hb d_DeviceSets_endBatch_13 (by decide) (fun c_2 => ?_) (fun c_2 => ?_)
      · have c_2 : ns ≤ k := (nI_leI (a := ns) (b := k) (by omega) (by omega)).mp c_2
        have c_2n : ¬ k < ns := by omega
        refine lv_iconst (v := 0) hx hb d_DeviceSets_endBatch_46 (by decide) ?_
        exact W.zret (v := (0 : Int32)) hx hb hr (rfl) (fun t ht hW => ⟨(0 : Int32), rfl, by simp [bI], ht⟩) (fun q h => by cases h) d_DeviceSets_endBatch_47
      · have c_2 : ¬ ns ≤ k := fun h9 => c_2 ((nI_leI (a := ns) (b := k) (by omega) (by omega)).mpr h9)
        have c_2n : k < ns := by omega
        refine lv_aload_n hx hb d_DeviceSets_endBatch_16 rfl (lv_at hl 1 rfl) ?_
        refine lv_iload_n hx hb d_DeviceSets_endBatch_17 rfl (lv_at hl 0 rfl) ?_
        refine va_csq (va_Run.run (sy_runV (As := [.int (nI k)]) (rest := []) (b := (g 0)) ⟨hx, hb, hml, hown, ht⟩ cl_DeviceSets_80 (c_DeviceSets_setAt l G g nd ns nb (nI k) (by omega)) hK hP (va_recv hK.1 hP (ci := 0) (q0 := 0) rfl rfl) rfl nm_DeviceSets_setAt rfl rfl ⟨Nat.le_of_ble_eq_true rfl, Nat.le_of_ble_eq_true rfl⟩ hl.1 (Nat.le_of_ble_eq_true rfl) d_DeviceSets_endBatch_18 ⟨Nat.zero_le _, Nat.zero_le _⟩)) (fun r_3 hr_3 => ?_)
        have hq9 : mo_ok ns (nI k) = true := by simp [mo_ok, nI_pos' (show k < 2 ^ 31 by omega), nI_lt (show k < ns by omega) (show ns < 2 ^ 31 by omega)]
        have hr_3 : r_3 = some (g (40 + 3 * k)) := by rw [hr_3, xa_at, if_pos hq9, nI_clamp (show k < 2 ^ 31 by omega)]
        subst hr_3
        refine sy_tr (y := .ref (g (40 + 3 * k))) rfl ?_
        have hPk := hPS k (by omega)
        refine lv_astore_n (lv' := [(3, .ref (g (40 + 3 * k))), (2, .int (nI k)), (0, .ref (g 0)), (1, .int b)]) hx hb d_DeviceSets_endBatch_21 rfl hl (by decide) rfl (fun ls hl => ?_)
        refine lv_aload_n hx hb d_DeviceSets_endBatch_22 rfl (lv_at hl 0 rfl) ?_
        refine lv_ifnull hx hb d_DeviceSets_endBatch_23 ?_
        refine lv_aload_n hx hb d_DeviceSets_endBatch_26 rfl (lv_at hl 0 rfl) ?_
        refine va_getN (D := G.1) (ci := 4) (v := .int (so k)) (C := R_ToldSet) (T := F_ToldSet) (N := 3) hx hb ht i_ToldSet hown hK.1 hPk 0 rfl rfl 2 (by decide) (va_Nw.use rfl (hK.2 _ m_251)) (fun _ h9 => h9) rfl d_DeviceSets_endBatch_27 ?_
        refine lv_iload_n hx hb d_DeviceSets_endBatch_30 rfl (lv_at hl 3 rfl) ?_
        refine lv_icmp_ne (tgt := 40) hx hb d_DeviceSets_endBatch_31 (by decide) (fun c_4 => ?_) (fun c_4 => ?_)
        · refine lv_iinc (v := nI (k + 1)) (lv' := [(2, .int (nI (k + 1))), (3, .ref (g (40 + 3 * k))), (0, .ref (g 0)), (1, .int b)]) hx hb d_DeviceSets_endBatch_40 hl (k := 1) rfl (nI_add k 1) (by decide) rfl (fun ls hl => ?_)
          refine lv_goto (tgt := 8) hx hb d_DeviceSets_endBatch_43 (by decide) ?_
          refine ih8 (k + 1) ls (show ns - (k + 1) < ns - k by omega) ?_ (lv_sub hl [0, 2, 3] rfl)
          exact (by omega)
        · exfalso; rcases hq with h9 | h9; (exact absurd h9 (by assumption)); (have h8 := nn_ff_none h9 k (by omega); simp [c_1, c_1n, c_2, c_2n, c_4] at h8; done)
    · exact Nat.zero_le _
  · have c_1n := sy_d32 c_1
    refine lv_iconst (v := 0) hx hb d_DeviceSets_endBatch_4 (by decide) ?_
    exact W.zret (v := (0 : Int32)) hx hb hr (rfl) (fun t ht hW => ⟨(0 : Int32), rfl, by simp [bI], ht⟩) (fun q h => by cases h) d_DeviceSets_endBatch_5
