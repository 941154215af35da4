set_option maxHeartbeats 4000000 in
set_option maxRecDepth 100000 in
theorem c_DeviceSets_retainN (l : Launch) (G : sy_G) (g : Nat → Nat) (nd : Nat) (ns : Nat) (nb : Nat) (d : Int32) (x : Int64) (hq : mo_ok ns d = false) (hs : ns ≤ 6) : Met l y_DeviceSets_retain (sy_w y_DeviceSets_retain b_DeviceSets_retain 7 (some .int)) { frames := 4, cells := 0, slots := 0, locals := 90 } (va_Pc [.ref (g 0), .int d, .long x] (sy_KP G (va_P G.1 classes (xw G.2 g nd ns nb)))) (vp_Si (fun r => r = (-1 : Int32))) 0 0 (fun _ => False) := by
  refine Met.ofW (cc := b_DeviceSets_retain) (maxL := 7) (ret := (some .int)) (by decide) rfl ?_
  intro p e s m args below meth c s₁ B hml hv
  obtain ⟨rfl, hP, hK⟩ := hv
  have hx := B.exec
  have hb := B.bytes
  have hr := B.returns
  have hts := atoms_spec (ws := sy_w y_DeviceSets_retain b_DeviceSets_retain 7 (some .int)) B.pre
  have ht : ∀ wd ∈ sy_T, wd.before ([.ref (g 0), .int d, .long x] : List Value).toArray s = true := fun wd h => hts wd (List.mem_cons_of_mem _ h)
  have hown : s.vm.findClass R_DeviceSets = some m.cls := findClass_of_methodNamed B.named
  have hlocks := B.notSynchronized
  have hl := lv_entry ([.ref (g 0), .int d, .long x]) (n := 7) (Nat.le_of_ble_eq_true rfl)
  rw [lg_entry_eq]
  generalize (lg_sl ([.ref (g 0), .int d, .long x]) ++ List.replicate (7 - (lg_sl ([.ref (g 0), .int d, .long x])).length) Slot.unset).toArray = ls at hl ⊢
  have hl : lv_has ls 7 [(0, .ref (g 0)), (1, .int d), (2, .long x)] := hl
  refine lv_aload_n hx hb d_DeviceSets_retain_0 rfl (lv_at hl 0 rfl) ?_
  refine lv_iload_n hx hb d_DeviceSets_retain_1 rfl (lv_at hl 1 rfl) ?_
  refine va_csq (va_Run.run (sy_runV (As := [.int d]) (rest := []) (b := (g 0)) ⟨hx, hb, hml, hown, ht⟩ cl_DeviceSets_80 (c_DeviceSets_setAt l G g nd ns nb d (by omega)) hK hP (va_recv hK.1 hP (ci := 0) (q0 := 0) rfl rfl) rfl nm_DeviceSets_setAt rfl rfl ⟨Nat.le_of_ble_eq_true rfl, Nat.le_of_ble_eq_true rfl⟩ hl.1 (Nat.le_of_ble_eq_true rfl) d_DeviceSets_retain_2 ⟨Nat.zero_le _, Nat.zero_le _⟩)) (fun r_1 hr_1 => ?_)
  have hr_1 : r_1 = none := by rw [hr_1, xa_at, hq]; rfl
  subst hr_1
  refine sy_tr (y := .null) rfl ?_
  refine lv_astoreN (lv' := [(4, .null), (0, .ref (g 0)), (1, .int d), (2, .long x)]) hx hb d_DeviceSets_retain_5 hl (by decide) rfl (fun ls hl => ?_)
  refine lv_aloadN hx hb d_DeviceSets_retain_7 (lv_at hl 0 rfl) ?_
  refine lv_ifnullN (tgt := 26) hx hb d_DeviceSets_retain_9 (by decide) ?_
  refine lv_iconst (v := (-1)) hx hb d_DeviceSets_retain_26 (by decide) ?_
  exact W.iret (v := (-1 : Int32)) hx hb hr (fun t ht hW => ⟨(-1 : Int32), rfl, rfl, ht⟩) (fun q h => by cases h) d_DeviceSets_retain_27
set_option maxHeartbeats 4000000 in
set_option maxRecDepth 100000 in
theorem c_DeviceSets_settleN (l : Launch) (G : sy_G) (g : Nat → Nat) (nd : Nat) (ns : Nat) (nb : Nat) (d : Int32) (dv : Int32) (kd : Int32) (wh : Int32) (hq : mo_ok ns d = false) (hs : ns ≤ 6) : Met l y_DeviceSets_settle (sy_w y_DeviceSets_settle b_DeviceSets_settle 8 (some .int)) { frames := 5, cells := 0, slots := 0, locals := 120 } (va_Pc [.ref (g 0), .int d, .int dv, .int kd, .int wh] (sy_KP G (va_P G.1 classes (xw G.2 g nd ns nb)))) (vp_Si (fun r => r = (-1 : Int32))) 0 0 (fun _ => False) := by
  refine Met.ofW (cc := b_DeviceSets_settle) (maxL := 8) (ret := (some .int)) (by decide) rfl ?_
  intro p e s m args below meth c s₁ B hml hv
  obtain ⟨rfl, hP, hK⟩ := hv
  have hx := B.exec
  have hb := B.bytes
  have hr := B.returns
  have hts := atoms_spec (ws := sy_w y_DeviceSets_settle b_DeviceSets_settle 8 (some .int)) B.pre
  have ht : ∀ wd ∈ sy_T, wd.before ([.ref (g 0), .int d, .int dv, .int kd, .int wh] : List Value).toArray s = true := fun wd h => hts wd (List.mem_cons_of_mem _ h)
  have hown : s.vm.findClass R_DeviceSets = some m.cls := findClass_of_methodNamed B.named
  have hlocks := B.notSynchronized
  have hl := lv_entry ([.ref (g 0), .int d, .int dv, .int kd, .int wh]) (n := 8) (Nat.le_of_ble_eq_true rfl)
  rw [lg_entry_eq]
  generalize (lg_sl ([.ref (g 0), .int d, .int dv, .int kd, .int wh]) ++ List.replicate (8 - (lg_sl ([.ref (g 0), .int d, .int dv, .int kd, .int wh])).length) Slot.unset).toArray = ls at hl ⊢
  have hl : lv_has ls 8 [(0, .ref (g 0)), (1, .int d), (2, .int dv), (3, .int kd), (4, .int wh)] := hl
  refine lv_aload_n hx hb d_DeviceSets_settle_0 rfl (lv_at hl 0 rfl) ?_
  refine lv_iload_n hx hb d_DeviceSets_settle_1 rfl (lv_at hl 1 rfl) ?_
  refine va_csq (va_Run.run (sy_runV (As := [.int d]) (rest := []) (b := (g 0)) ⟨hx, hb, hml, hown, ht⟩ cl_DeviceSets_80 (c_DeviceSets_setAt l G g nd ns nb d (by omega)) hK hP (va_recv hK.1 hP (ci := 0) (q0 := 0) rfl rfl) rfl nm_DeviceSets_setAt rfl rfl ⟨Nat.le_of_ble_eq_true rfl, Nat.le_of_ble_eq_true rfl⟩ hl.1 (Nat.le_of_ble_eq_true rfl) d_DeviceSets_settle_2 ⟨Nat.zero_le _, Nat.zero_le _⟩)) (fun r_1 hr_1 => ?_)
  have hr_1 : r_1 = none := by rw [hr_1, xa_at, hq]; rfl
  subst hr_1
  refine sy_tr (y := .null) rfl ?_
  refine lv_astoreN (lv' := [(5, .null), (0, .ref (g 0)), (1, .int d), (2, .int dv), (3, .int kd), (4, .int wh)]) hx hb d_DeviceSets_settle_5 hl (by decide) rfl (fun ls hl => ?_)
  refine lv_aloadN hx hb d_DeviceSets_settle_7 (lv_at hl 0 rfl) ?_
  refine lv_ifnonnullN hx hb d_DeviceSets_settle_9 ?_
  refine lv_iconst (v := (-1)) hx hb d_DeviceSets_settle_12 (by decide) ?_
  exact W.iret (v := (-1 : Int32)) hx hb hr (fun t ht hW => ⟨(-1 : Int32), rfl, rfl, ht⟩) (fun q h => by cases h) d_DeviceSets_settle_13
set_option maxHeartbeats 4000000 in
set_option maxRecDepth 100000 in
theorem c_DeviceSets_batchN (l : Launch) (G : sy_G) (g : Nat → Nat) (nd : Nat) (ns : Nat) (nb : Nat) (d : Int32) (hq : mo_ok ns d = false) (hs : ns ≤ 6) : Met l y_DeviceSets_batch (sy_w y_DeviceSets_batch b_DeviceSets_batch 3 (some .int)) { frames := 1, cells := 0, slots := 0, locals := 21 } (va_Pc [.ref (g 0), .int d] (sy_KP G (va_P G.1 classes (xw G.2 g nd ns nb)))) (vp_Si (fun r => r = (-1 : Int32))) 0 0 (fun _ => False) := by
  refine Met.ofW (cc := b_DeviceSets_batch) (maxL := 3) (ret := (some .int)) (by decide) rfl ?_
  intro p e s m args below meth c s₁ B hml hv
  obtain ⟨rfl, hP, hK⟩ := hv
  have hx := B.exec
  have hb := B.bytes
  have hr := B.returns
  have hts := atoms_spec (ws := sy_w y_DeviceSets_batch b_DeviceSets_batch 3 (some .int)) B.pre
  have ht : ∀ wd ∈ sy_T, wd.before ([.ref (g 0), .int d] : List Value).toArray s = true := fun wd h => hts wd (List.mem_cons_of_mem _ h)
  have hown : s.vm.findClass R_DeviceSets = some m.cls := findClass_of_methodNamed B.named
  have hlocks := B.notSynchronized
  have hl := lv_entry ([.ref (g 0), .int d]) (n := 3) (Nat.le_of_ble_eq_true rfl)
  rw [lg_entry_eq]
  generalize (lg_sl ([.ref (g 0), .int d]) ++ List.replicate (3 - (lg_sl ([.ref (g 0), .int d])).length) Slot.unset).toArray = ls at hl ⊢
  have hl : lv_has ls 3 [(0, .ref (g 0)), (1, .int d)] := hl
  refine lv_aload_n hx hb d_DeviceSets_batch_0 rfl (lv_at hl 0 rfl) ?_
  refine lv_iload_n hx hb d_DeviceSets_batch_1 rfl (lv_at hl 1 rfl) ?_
  refine va_csq (va_Run.run (sy_runV (As := [.int d]) (rest := []) (b := (g 0)) ⟨hx, hb, hml, hown, ht⟩ cl_DeviceSets_80 (c_DeviceSets_setAt l G g nd ns nb d (by omega)) hK hP (va_recv hK.1 hP (ci := 0) (q0 := 0) rfl rfl) rfl nm_DeviceSets_setAt rfl rfl ⟨Nat.le_of_ble_eq_true rfl, Nat.le_of_ble_eq_true rfl⟩ hl.1 (Nat.le_of_ble_eq_true rfl) d_DeviceSets_batch_2 ⟨Nat.zero_le _, Nat.zero_le _⟩)) (fun r_1 hr_1 => ?_)
  have hr_1 : r_1 = none := by rw [hr_1, xa_at, hq]; rfl
  subst hr_1
  refine sy_tr (y := .null) rfl ?_
  refine lv_astore_nN (lv' := [(2, .null), (0, .ref (g 0)), (1, .int d)]) hx hb d_DeviceSets_batch_5 rfl hl (by decide) rfl (fun ls hl => ?_)
  refine lv_aload_nN hx hb d_DeviceSets_batch_6 rfl (lv_at hl 0 rfl) ?_
  refine lv_ifnullN (tgt := 18) hx hb d_DeviceSets_batch_7 (by decide) ?_
  refine lv_iconst (v := (-1)) hx hb d_DeviceSets_batch_18 (by decide) ?_
  exact W.iret (v := (-1 : Int32)) hx hb hr (fun t ht hW => ⟨(-1 : Int32), rfl, rfl, ht⟩) (fun q h => by cases h) d_DeviceSets_batch_19
set_option maxHeartbeats 4000000 in
set_option maxRecDepth 100000 in
theorem c_DeviceSets_resetN (l : Launch) (G : sy_G) (g : Nat → Nat) (nd : Nat) (ns : Nat) (nb : Nat) (d : Int32) (x : Int64) (hq : mo_ok nd d = false) (hd : nd ≤ 4) : Met l y_DeviceSets_reset (sy_w y_DeviceSets_reset b_DeviceSets_reset 5 (some .boolean)) { frames := 1, cells := 0, slots := 0, locals := 21 } (va_Pc [.ref (g 0), .int d, .long x] (sy_KP G (va_P G.1 classes (xw G.2 g nd ns nb)))) (vp_Si (fun r => r = bI (false))) 0 0 (fun _ => False) := by
  refine Met.ofW (cc := b_DeviceSets_reset) (maxL := 5) (ret := (some .boolean)) (by decide) rfl ?_
  intro p e s m args below meth c s₁ B hml hv
  obtain ⟨rfl, hP, hK⟩ := hv
  have hx := B.exec
  have hb := B.bytes
  have hr := B.returns
  have hts := atoms_spec (ws := sy_w y_DeviceSets_reset b_DeviceSets_reset 5 (some .boolean)) B.pre
  have ht : ∀ wd ∈ sy_T, wd.before ([.ref (g 0), .int d, .long x] : List Value).toArray s = true := fun wd h => hts wd (List.mem_cons_of_mem _ h)
  have hown : s.vm.findClass R_DeviceSets = some m.cls := findClass_of_methodNamed B.named
  have hlocks := B.notSynchronized
  have hl := lv_entry ([.ref (g 0), .int d, .long x]) (n := 5) (Nat.le_of_ble_eq_true rfl)
  rw [lg_entry_eq]
  generalize (lg_sl ([.ref (g 0), .int d, .long x]) ++ List.replicate (5 - (lg_sl ([.ref (g 0), .int d, .long x])).length) Slot.unset).toArray = ls at hl ⊢
  have hl : lv_has ls 5 [(0, .ref (g 0)), (1, .int d), (2, .long x)] := hl
  refine lv_aload_n hx hb d_DeviceSets_reset_0 rfl (lv_at hl 0 rfl) ?_
  refine lv_iload_n hx hb d_DeviceSets_reset_1 rfl (lv_at hl 1 rfl) ?_
  refine va_csq (va_Run.run (sy_runV (As := [.int d]) (rest := []) (b := (g 0)) ⟨hx, hb, hml, hown, ht⟩ cl_DeviceSets_40 (c_DeviceSets_deviceAt l G g nd ns nb d (by omega)) hK hP (va_recv hK.1 hP (ci := 0) (q0 := 0) rfl rfl) rfl nm_DeviceSets_deviceAt rfl rfl ⟨Nat.le_of_ble_eq_true rfl, Nat.le_of_ble_eq_true rfl⟩ hl.1 (Nat.le_of_ble_eq_true rfl) d_DeviceSets_reset_2 ⟨Nat.zero_le _, Nat.zero_le _⟩)) (fun r_1 hr_1 => ?_)
  have hr_1 : r_1 = none := by rw [hr_1, xa_at, hq]; rfl
  subst hr_1
  refine sy_tr (y := .null) rfl ?_
  refine lv_astoreN (lv' := [(4, .null), (0, .ref (g 0)), (1, .int d), (2, .long x)]) hx hb d_DeviceSets_reset_5 hl (by decide) rfl (fun ls hl => ?_)
  refine lv_aloadN hx hb d_DeviceSets_reset_7 (lv_at hl 0 rfl) ?_
  refine lv_ifnullN (tgt := 29) hx hb d_DeviceSets_reset_9 (by decide) ?_
  refine lv_iconst (v := 0) hx hb d_DeviceSets_reset_29 (by decide) ?_
  exact W.zret (v := (0 : Int32)) hx hb hr (rfl) (fun t ht hW => ⟨(0 : Int32), rfl, by simp [bI, hq], ht⟩) (fun q h => by cases h) d_DeviceSets_reset_30
set_option maxHeartbeats 4000000 in
set_option maxRecDepth 100000 in
theorem c_DeviceSets_markN (l : Launch) (G : sy_G) (g : Nat → Nat) (nd : Nat) (ns : Nat) (nb : Nat) (d : Int32) (x : Int64) (y : Int64) (hq : mo_ok nd d = false) (hd : nd ≤ 4) : Met l y_DeviceSets_mark (sy_w y_DeviceSets_mark b_DeviceSets_mark 7 (some .boolean)) { frames := 1, cells := 0, slots := 0, locals := 24 } (va_Pc [.ref (g 0), .int d, .long x, .long y] (sy_KP G (va_P G.1 classes (xw G.2 g nd ns nb)))) (vp_Si (fun r => r = bI (false))) 0 0 (fun _ => False) := by
  refine Met.ofW (cc := b_DeviceSets_mark) (maxL := 7) (ret := (some .boolean)) (by decide) rfl ?_
  intro p e s m args below meth c s₁ B hml hv
  obtain ⟨rfl, hP, hK⟩ := hv
  have hx := B.exec
  have hb := B.bytes
  have hr := B.returns
  have hts := atoms_spec (ws := sy_w y_DeviceSets_mark b_DeviceSets_mark 7 (some .boolean)) B.pre
  have ht : ∀ wd ∈ sy_T, wd.before ([.ref (g 0), .int d, .long x, .long y] : List Value).toArray s = true := fun wd h => hts wd (List.mem_cons_of_mem _ h)
  have hown : s.vm.findClass R_DeviceSets = some m.cls := findClass_of_methodNamed B.named
  have hlocks := B.notSynchronized
  have hl := lv_entry ([.ref (g 0), .int d, .long x, .long y]) (n := 7) (Nat.le_of_ble_eq_true rfl)
  rw [lg_entry_eq]
  generalize (lg_sl ([.ref (g 0), .int d, .long x, .long y]) ++ List.replicate (7 - (lg_sl ([.ref (g 0), .int d, .long x, .long y])).length) Slot.unset).toArray = ls at hl ⊢
  have hl : lv_has ls 7 [(0, .ref (g 0)), (1, .int d), (2, .long x), (4, .long y)] := hl
  refine lv_aload_n hx hb d_DeviceSets_mark_0 rfl (lv_at hl 0 rfl) ?_
  refine lv_iload_n hx hb d_DeviceSets_mark_1 rfl (lv_at hl 1 rfl) ?_
  refine va_csq (va_Run.run (sy_runV (As := [.int d]) (rest := []) (b := (g 0)) ⟨hx, hb, hml, hown, ht⟩ cl_DeviceSets_40 (c_DeviceSets_deviceAt l G g nd ns nb d (by omega)) hK hP (va_recv hK.1 hP (ci := 0) (q0 := 0) rfl rfl) rfl nm_DeviceSets_deviceAt rfl rfl ⟨Nat.le_of_ble_eq_true rfl, Nat.le_of_ble_eq_true rfl⟩ hl.1 (Nat.le_of_ble_eq_true rfl) d_DeviceSets_mark_2 ⟨Nat.zero_le _, Nat.zero_le _⟩)) (fun r_1 hr_1 => ?_)
  have hr_1 : r_1 = none := by rw [hr_1, xa_at, hq]; rfl
  subst hr_1
  refine sy_tr (y := .null) rfl ?_
  refine lv_astoreN (lv' := [(6, .null), (0, .ref (g 0)), (1, .int d), (2, .long x), (4, .long y)]) hx hb d_DeviceSets_mark_5 hl (by decide) rfl (fun ls hl => ?_)
  refine lv_aloadN hx hb d_DeviceSets_mark_7 (lv_at hl 0 rfl) ?_
  refine lv_ifnullN (tgt := 45) hx hb d_DeviceSets_mark_9 (by decide) ?_
  refine lv_iconst (v := 0) hx hb d_DeviceSets_mark_45 (by decide) ?_
  exact W.zret (v := (0 : Int32)) hx hb hr (rfl) (fun t ht hW => ⟨(0 : Int32), rfl, by simp [bI, hq], ht⟩) (fun q h => by cases h) d_DeviceSets_mark_46
set_option maxHeartbeats 4000000 in
set_option maxRecDepth 100000 in
theorem c_DeviceSets_tellN (l : Launch) (G : sy_G) (g : Nat → Nat) (nd : Nat) (ns : Nat) (nb : Nat) (d : Int32) (x : Int64) (kd : Int32) (se : Int64) (v : Int64) (wh : Int64) (hq : mo_ok nd d = false) (hd : nd ≤ 4) : Met l y_DeviceSets_tell (sy_w y_DeviceSets_tell b_DeviceSets_tell 12 (some .int)) { frames := 1, cells := 0, slots := 0, locals := 30 } (va_Pc [.ref (g 0), .int d, .long x, .int kd, .long se, .long v, .long wh] (sy_KP G (va_P G.1 classes (xw G.2 g nd ns nb)))) (vp_Si (fun r => r = (-1 : Int32))) 0 0 (fun _ => False) := by
  refine Met.ofW (cc := b_DeviceSets_tell) (maxL := 12) (ret := (some .int)) (by decide) rfl ?_
  intro p e s m args below meth c s₁ B hml hv
  obtain ⟨rfl, hP, hK⟩ := hv
  have hx := B.exec
  have hb := B.bytes
  have hr := B.returns
  have hts := atoms_spec (ws := sy_w y_DeviceSets_tell b_DeviceSets_tell 12 (some .int)) B.pre
  have ht : ∀ wd ∈ sy_T, wd.before ([.ref (g 0), .int d, .long x, .int kd, .long se, .long v, .long wh] : List Value).toArray s = true := fun wd h => hts wd (List.mem_cons_of_mem _ h)
  have hown : s.vm.findClass R_DeviceSets = some m.cls := findClass_of_methodNamed B.named
  have hlocks := B.notSynchronized
  have hl := lv_entry ([.ref (g 0), .int d, .long x, .int kd, .long se, .long v, .long wh]) (n := 12) (Nat.le_of_ble_eq_true rfl)
  rw [lg_entry_eq]
  generalize (lg_sl ([.ref (g 0), .int d, .long x, .int kd, .long se, .long v, .long wh]) ++ List.replicate (12 - (lg_sl ([.ref (g 0), .int d, .long x, .int kd, .long se, .long v, .long wh])).length) Slot.unset).toArray = ls at hl ⊢
  have hl : lv_has ls 12 [(0, .ref (g 0)), (1, .int d), (2, .long x), (4, .int kd), (5, .long se), (7, .long v), (9, .long wh)] := hl
  refine lv_aload_n hx hb d_DeviceSets_tell_0 rfl (lv_at hl 0 rfl) ?_
  refine lv_iload_n hx hb d_DeviceSets_tell_1 rfl (lv_at hl 1 rfl) ?_
  refine va_csq (va_Run.run (sy_runV (As := [.int d]) (rest := []) (b := (g 0)) ⟨hx, hb, hml, hown, ht⟩ cl_DeviceSets_40 (c_DeviceSets_deviceAt l G g nd ns nb d (by omega)) hK hP (va_recv hK.1 hP (ci := 0) (q0 := 0) rfl rfl) rfl nm_DeviceSets_deviceAt rfl rfl ⟨Nat.le_of_ble_eq_true rfl, Nat.le_of_ble_eq_true rfl⟩ hl.1 (Nat.le_of_ble_eq_true rfl) d_DeviceSets_tell_2 ⟨Nat.zero_le _, Nat.zero_le _⟩)) (fun r_1 hr_1 => ?_)
  have hr_1 : r_1 = none := by rw [hr_1, xa_at, hq]; rfl
  subst hr_1
  refine sy_tr (y := .null) rfl ?_
  refine lv_astoreN (lv' := [(11, .null), (0, .ref (g 0)), (1, .int d), (2, .long x), (4, .int kd), (5, .long se), (7, .long v), (9, .long wh)]) hx hb d_DeviceSets_tell_5 hl (by decide) rfl (fun ls hl => ?_)
  refine lv_aloadN hx hb d_DeviceSets_tell_7 (lv_at hl 0 rfl) ?_
  refine lv_ifnullN (tgt := 29) hx hb d_DeviceSets_tell_9 (by decide) ?_
  refine lv_iconst (v := (-1)) hx hb d_DeviceSets_tell_29 (by decide) ?_
  exact W.iret (v := (-1 : Int32)) hx hb hr (fun t ht hW => ⟨(-1 : Int32), rfl, rfl, ht⟩) (fun q h => by cases h) d_DeviceSets_tell_30
