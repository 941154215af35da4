set_option maxHeartbeats 4000000 in
set_option maxRecDepth 100000 in
theorem c_DeviceSets_mark (l : Launch) (G : sy_G) (g : Nat → Nat) (nd : Nat) (ns : Nat) (nb : Nat) (z : Nat) (lf : Nat) (fn : Int64) (km : Nat) (kf : Nat → Nat → Int64) (x : Int64) (y : Int64) (hz : z < nd) (hd : nd ≤ 4) (hkm : km ≤ 10) : Met l y_DeviceSets_mark (sy_w y_DeviceSets_mark b_DeviceSets_mark 7 (some .boolean)) { frames := 1, cells := 0, slots := 0, locals := 24 } (va_Pc [.ref (g 0), .int (nI z), .long x, .long y] (sy_KP G (fun H => va_P G.1 classes (xw G.2 g nd ns nb ++ dq G.2 (g (20 + 4 * z)) (g (21 + 4 * z)) (fun k => g (22 + 4 * z + k)) lf fn km kf) H ∧ va_D (fun _ => True) (xw G.2 g nd ns nb ++ dq G.2 (g (20 + 4 * z)) (g (21 + 4 * z)) (fun k => g (22 + 4 * z + k)) lf fn km kf)))) (va_Qi (S := ck_S) (fun r u => r = bI (xm_mark km kf x y).1 ∧ u = (xm_mark km kf x y).2) (fun u t => va_P G.1 classes (xw G.2 g nd ns nb ++ dq G.2 (g (20 + 4 * z)) (g (21 + 4 * z)) (fun k => g (22 + 4 * z + k)) lf fn u.1 u.2) t.heap) (sy_A (xw G.2 g nd ns nb ++ dq G.2 (g (20 + 4 * z)) (g (21 + 4 * z)) (fun k => g (22 + 4 * z + k)) lf fn km kf))) 0 0 (sy_A (xw G.2 g nd ns nb ++ dq G.2 (g (20 + 4 * z)) (g (21 + 4 * z)) (fun k => g (22 + 4 * z + k)) lf fn km kf)) := by
  refine Met.ofW (cc := b_DeviceSets_mark) (maxL := 7) (ret := (some .boolean)) (by decide) rfl ?_
  intro p e s m args below meth c s₁ B hml hv
  obtain ⟨rfl, ⟨hP, hD0⟩, hK⟩ := hv
  have hx := B.exec
  have hb := B.bytes
  have hr := B.returns
  have hts := atoms_spec (ws := sy_w y_DeviceSets_mark b_DeviceSets_mark 7 (some .boolean)) B.pre
  have ht : ∀ wd ∈ sy_T, wd.before ([.ref (g 0), .int (nI z), .long x, .long y] : List Value).toArray s = true := fun wd h => hts wd (List.mem_cons_of_mem _ h)
  have hown : s.vm.findClass R_DeviceSets = some m.cls := findClass_of_methodNamed B.named
  have hlocks := B.notSynchronized
  have hD := sy_self hD0
  generalize hAe : sy_A (xw G.2 g nd ns nb ++ dq G.2 (g (20 + 4 * z)) (g (21 + 4 * z)) (fun k => g (22 + 4 * z + k)) lf fn km kf) = A at hD ⊢
  have hS : va_S A s.heap s.heap [] := va_S.rf
  have hl := lv_entry ([.ref (g 0), .int (nI z), .long x, .long y]) (n := 7) (Nat.le_of_ble_eq_true rfl)
  rw [lg_entry_eq]
  generalize (lg_sl ([.ref (g 0), .int (nI z), .long x, .long y]) ++ List.replicate (7 - (lg_sl ([.ref (g 0), .int (nI z), .long x, .long y])).length) Slot.unset).toArray = ls at hl ⊢
  have hl : lv_has ls 7 [(0, .ref (g 0)), (1, .int (nI z)), (2, .long x), (4, .long y)] := hl
  refine lv_aload_n hx hb d_DeviceSets_mark_0 rfl (lv_at hl 0 rfl) ?_
  refine lv_iload_n hx hb d_DeviceSets_mark_1 rfl (lv_at hl 1 rfl) ?_
  refine va_csq (va_Run.run (sy_runV (As := [.int (nI z)]) (rest := []) (b := (g 0)) ⟨hx, hb, hml, hown, ht⟩ cl_DeviceSets_40 (c_DeviceSets_deviceAt l G g nd ns nb (nI z) (by omega)) hK (hP.sub [0, 1, 2] rfl) (va_recv hK.1 hP (ci := 0) (q0 := 0) rfl rfl) rfl nm_DeviceSets_deviceAt rfl rfl ⟨Nat.le_of_ble_eq_true rfl, Nat.le_of_ble_eq_true rfl⟩ hl.1 (Nat.le_of_ble_eq_true rfl) d_DeviceSets_mark_2 ⟨Nat.zero_le _, Nat.zero_le _⟩)) (fun r_1 hr_1 => ?_)
  have hq9 : mo_ok nd (nI z) = true := by simp [mo_ok, nI_pos' (show z < 2 ^ 31 by omega), nI_lt hz (show nd < 2 ^ 31 by omega)]
  have hr_1 : r_1 = some (g (20 + 4 * z)) := by rw [hr_1, xa_at, if_pos hq9, nI_clamp (show z < 2 ^ 31 by omega)]
  subst hr_1
  refine sy_tr (y := .ref (g (20 + 4 * z))) rfl ?_
  refine lv_astore (lv' := [(6, .ref (g (20 + 4 * z))), (0, .ref (g 0)), (1, .int (nI z)), (2, .long x), (4, .long y)]) hx hb d_DeviceSets_mark_5 hl (by decide) rfl (fun ls hl => ?_)
  refine lv_aload hx hb d_DeviceSets_mark_7 (lv_at hl 0 rfl) ?_
  refine lv_ifnull hx hb d_DeviceSets_mark_9 ?_
  refine lv_lload_n hx hb d_DeviceSets_mark_12 rfl (lv_at hl 3 rfl) ?_
  refine vp_callSi (va_Run.run (sy_runS (As := [.long x]) (rest := []) ⟨hx, hb, hml, hown, ht⟩ cl_DeviceSets_44 (c_DeviceSets_isNumber l G x) hK trivial rfl nm_DeviceSets_isNumber rfl rfl ⟨Nat.le_of_ble_eq_true rfl, Nat.le_of_ble_eq_true rfl⟩ hl.1 (Nat.le_of_ble_eq_true rfl) d_DeviceSets_mark_13 ⟨Nat.zero_le _, Nat.zero_le _⟩)) (fun r_2 hr_2 => ?_)
  subst hr_2
  refine lv_if_eq (tgt := 45) hx hb d_DeviceSets_mark_16 (by decide) (fun c_3 => ?_) (fun c_3 => ?_)
  · have c_3 : (ok_num x) = false := bI_f c_3
    refine lv_iconst (v := 0) hx hb d_DeviceSets_mark_45 (by decide) ?_
    exact W.zret (v := (0 : Int32)) hx hb hr (rfl) (fun t ht hW => ⟨⟨(0 : Int32), (km, kf), rfl, by constructor <;> simp [xm_mark, bI, c_3], by show va_P _ _ _ t.heap; rw [ht]; exact hP⟩, hS.F ht⟩) hS.2.2 d_DeviceSets_mark_46
  · have c_3 : (ok_num x) = true := bI_t c_3
    refine lv_lload hx hb d_DeviceSets_mark_19 (lv_at hl 4 rfl) ?_
    refine vp_callSi (va_Run.run (sy_runS (As := [.long y]) (rest := []) ⟨hx, hb, hml, hown, ht⟩ cl_DeviceSets_44 (c_DeviceSets_isNumber l G y) hK trivial rfl nm_DeviceSets_isNumber rfl rfl ⟨Nat.le_of_ble_eq_true rfl, Nat.le_of_ble_eq_true rfl⟩ hl.1 (Nat.le_of_ble_eq_true rfl) d_DeviceSets_mark_21 ⟨Nat.zero_le _, Nat.zero_le _⟩)) (fun r_4 hr_4 => ?_)
    subst hr_4
    refine lv_if_eq (tgt := 45) hx hb d_DeviceSets_mark_24 (by decide) (fun c_5 => ?_) (fun c_5 => ?_)
    · have c_5 : (ok_num y) = false := bI_f c_5
      refine lv_iconst (v := 0) hx hb d_DeviceSets_mark_45 (by decide) ?_
      exact W.zret (v := (0 : Int32)) hx hb hr (rfl) (fun t ht hW => ⟨⟨(0 : Int32), (km, kf), rfl, by constructor <;> simp [xm_mark, bI, c_3, c_5], by show va_P _ _ _ t.heap; rw [ht]; exact hP⟩, hS.F ht⟩) hS.2.2 d_DeviceSets_mark_46
    · have c_5 : (ok_num y) = true := bI_t c_5
      refine lv_aload hx hb d_DeviceSets_mark_27 (lv_at hl 0 rfl) ?_
      refine va_getN (D := G.1) (ci := 1) (v := .ref (g (21 + 4 * z))) (C := R_Device) (T := F_Device) (N := 3) hx hb ht i_Device hown hK.1 hP 3 rfl rfl 0 (by decide) (va_Nw.use rfl (hK.2 _ m_161)) (fun _ h9 => h9) rfl d_DeviceSets_mark_29 ?_
      refine lv_lload_n hx hb d_DeviceSets_mark_32 rfl (lv_at hl 3 rfl) ?_
      refine lv_lload hx hb d_DeviceSets_mark_33 (lv_at hl 4 rfl) ?_
      have hPc : va_P G.1 classes (kw G.2 (g (21 + 4 * z)) (fun k => g (22 + 4 * z + k)) km kf) s.heap := hP.sub [4, 5, 6] rfl
      have hDc : va_D A (kw G.2 (g (21 + 4 * z)) (fun k => g (22 + 4 * z + k)) km kf) := hD.sub [4, 5, 6] (by decide) rfl
      refine va_calli (sy_runV (As := [.long x, .long y]) (rest := []) (b := (g (21 + 4 * z))) ⟨hx, hb, hml, hown, ht⟩ cl_DeviceSets_202 (c_Clock_addMark l G (g (21 + 4 * z)) (fun k => g (22 + 4 * z + k)) km kf x y hkm) hK ⟨hPc, sy_any hDc⟩ (va_recv hK.1 hPc (ci := 2) (q0 := 0) rfl rfl) rfl nm_Clock_addMark rfl rfl ⟨Nat.le_of_ble_eq_true rfl, Nat.le_of_ble_eq_true rfl⟩ hl.1 (Nat.le_of_ble_eq_true rfl) d_DeviceSets_mark_35 ⟨Nat.zero_le _, Nat.zero_le _⟩) hS (fun q _ h => sy_in hDc h) (fun q h => sy_in hDc h) (fun r_6 u_7 t9 H9 locs ht9 hvm9 hw9 hB9 hz9 hk9 hS => ?_)
      obtain ⟨hr_6, hu_7⟩ := hw9
      subst hu_7
      rw [ht9] at hB9
      have hP : va_P G.1 classes (xw G.2 g nd ns nb ++ dq G.2 (g (20 + 4 * z)) (g (21 + 4 * z)) (fun k => g (22 + 4 * z + k)) lf fn ((ck_add km kf x y).2.1) ((ck_add km kf x y).2.2)) H9 := sy_mix (wc := kw G.2 (g (21 + 4 * z)) (fun k => g (22 + 4 * z + k)) km kf) hP hD [4, 5, 6] rfl rfl hk9 hB9
      have hD : va_D A (xw G.2 g nd ns nb ++ dq G.2 (g (20 + 4 * z)) (g (21 + 4 * z)) (fun k => g (22 + 4 * z + k)) lf fn ((ck_add km kf x y).2.1) ((ck_add km kf x y).2.2)) := sy_Da hD rfl
      generalize H9 = H at hP hS ⊢
      subst hr_6
      refine sy_ti (y := bI (ck_add km kf x y).1) rfl ?_
      refine lv_if_eq (tgt := 45) hx hb d_DeviceSets_mark_38 (by decide) (fun c_8 => ?_) (fun c_8 => ?_)
      · have c_8 : ((ck_add km kf x y).1) = false := bI_f c_8
        refine lv_iconst (v := 0) hx hb d_DeviceSets_mark_45 (by decide) ?_
        exact W.zret (v := (0 : Int32)) hx hb hr (rfl) (fun t ht hW => ⟨⟨(0 : Int32), ((ck_add km kf x y).2.1, (ck_add km kf x y).2.2), rfl, by constructor <;> simp [xm_mark, bI, c_3, c_5, c_8], by show va_P _ _ _ t.heap; rw [ht]; exact hP⟩, hS.F ht⟩) hS.2.2 d_DeviceSets_mark_46
      · have c_8 : ((ck_add km kf x y).1) = true := bI_t c_8
        refine lv_iconst (v := 1) hx hb d_DeviceSets_mark_41 (by decide) ?_
        refine lv_goto (tgt := 46) hx hb d_DeviceSets_mark_42 (by decide) ?_
        exact W.zret (v := (1 : Int32)) hx hb hr (rfl) (fun t ht hW => ⟨⟨(1 : Int32), ((ck_add km kf x y).2.1, (ck_add km kf x y).2.2), rfl, by constructor <;> simp [xm_mark, bI, c_3, c_5, c_8], by show va_P _ _ _ t.heap; rw [ht]; exact hP⟩, hS.F ht⟩) hS.2.2 d_DeviceSets_mark_46
set_option maxHeartbeats 4000000 in
set_option maxRecDepth 100000 in
theorem c_DeviceSets_tell (l : Launch) (G : sy_G) (g : Nat → Nat) (nd : Nat) (ns : Nat) (nb : Nat) (nT : Nat) (fI : Nat → Nat → Int32) (fL : Nat → Nat → Int64) (z : Nat) (lf : Nat) (fn : Int64) (km : Nat) (kf : Nat → Nat → Int64) (x : Int64) (kd : Int32) (se : Int64) (v : Int64) (wh : Int64) (hz : z < nd) (hd : nd ≤ 4) (hn : nT ≤ 60) : Met l y_DeviceSets_tell (sy_w y_DeviceSets_tell b_DeviceSets_tell 12 (some .int)) { frames := 1, cells := 0, slots := 0, locals := 30 } (va_Pc [.ref (g 0), .int (nI z), .long x, .int kd, .long se, .long v, .long wh] (sy_KP G (fun H => va_P G.1 classes (xw G.2 g nd ns nb ++ (tw G.2 (g 3) (fun k => g (4 + k)) nT fI fL ++ dq G.2 (g (20 + 4 * z)) (g (21 + 4 * z)) (fun k => g (22 + 4 * z + k)) lf fn km kf)) H ∧ va_D (fun _ => True) (xw G.2 g nd ns nb ++ (tw G.2 (g 3) (fun k => g (4 + k)) nT fI fL ++ dq G.2 (g (20 + 4 * z)) (g (21 + 4 * z)) (fun k => g (22 + 4 * z + k)) lf fn km kf))))) (va_Qi (S := tl_S) (fun r u => r = (xm_tell nT fI fL lf fn (nI z) x kd se v wh).1 ∧ u = (xm_tell nT fI fL lf fn (nI z) x kd se v wh).2) (fun u t => va_P G.1 classes (xw G.2 g nd ns nb ++ (tw G.2 (g 3) (fun k => g (4 + k)) u.1 u.2.1 u.2.2 ++ dq G.2 (g (20 + 4 * z)) (g (21 + 4 * z)) (fun k => g (22 + 4 * z + k)) lf fn km kf)) t.heap) (sy_A (xw G.2 g nd ns nb ++ (tw G.2 (g 3) (fun k => g (4 + k)) nT fI fL ++ dq G.2 (g (20 + 4 * z)) (g (21 + 4 * z)) (fun k => g (22 + 4 * z + k)) lf fn km kf)))) 0 0 (sy_A (xw G.2 g nd ns nb ++ (tw G.2 (g 3) (fun k => g (4 + k)) nT fI fL ++ dq G.2 (g (20 + 4 * z)) (g (21 + 4 * z)) (fun k => g (22 + 4 * z + k)) lf fn km kf))) := by
  refine Met.ofW (cc := b_DeviceSets_tell) (maxL := 12) (ret := (some .int)) (by decide) rfl ?_
  intro p e s m args below meth c s₁ B hml hv
  obtain ⟨rfl, ⟨hP, hD0⟩, hK⟩ := hv
  have hx := B.exec
  have hb := B.bytes
  have hr := B.returns
  have hts := atoms_spec (ws := sy_w y_DeviceSets_tell b_DeviceSets_tell 12 (some .int)) B.pre
  have ht : ∀ wd ∈ sy_T, wd.before ([.ref (g 0), .int (nI z), .long x, .int kd, .long se, .long v, .long wh] : List Value).toArray s = true := fun wd h => hts wd (List.mem_cons_of_mem _ h)
  have hown : s.vm.findClass R_DeviceSets = some m.cls := findClass_of_methodNamed B.named
  have hlocks := B.notSynchronized
  have hD := sy_self hD0
  generalize hAe : sy_A (xw G.2 g nd ns nb ++ (tw G.2 (g 3) (fun k => g (4 + k)) nT fI fL ++ dq G.2 (g (20 + 4 * z)) (g (21 + 4 * z)) (fun k => g (22 + 4 * z + k)) lf fn km kf)) = A at hD ⊢
  have hS : va_S A s.heap s.heap [] := va_S.rf
  have hl := lv_entry ([.ref (g 0), .int (nI z), .long x, .int kd, .long se, .long v, .long wh]) (n := 12) (Nat.le_of_ble_eq_true rfl)
  rw [lg_entry_eq]
  generalize (lg_sl ([.ref (g 0), .int (nI z), .long x, .int kd, .long se, .long v, .long wh]) ++ List.replicate (12 - (lg_sl ([.ref (g 0), .int (nI z), .long x, .int kd, .long se, .long v, .long wh])).length) Slot.unset).toArray = ls at hl ⊢
  have hl : lv_has ls 12 [(0, .ref (g 0)), (1, .int (nI z)), (2, .long x), (4, .int kd), (5, .long se), (7, .long v), (9, .long wh)] := hl
  refine lv_aload_n hx hb d_DeviceSets_tell_0 rfl (lv_at hl 0 rfl) ?_
  refine lv_iload_n hx hb d_DeviceSets_tell_1 rfl (lv_at hl 1 rfl) ?_
  refine va_csq (va_Run.run (sy_runV (As := [.int (nI z)]) (rest := []) (b := (g 0)) ⟨hx, hb, hml, hown, ht⟩ cl_DeviceSets_40 (c_DeviceSets_deviceAt l G g nd ns nb (nI z) (by omega)) hK (hP.sub [0, 1, 2] rfl) (va_recv hK.1 hP (ci := 0) (q0 := 0) rfl rfl) rfl nm_DeviceSets_deviceAt rfl rfl ⟨Nat.le_of_ble_eq_true rfl, Nat.le_of_ble_eq_true rfl⟩ hl.1 (Nat.le_of_ble_eq_true rfl) d_DeviceSets_tell_2 ⟨Nat.zero_le _, Nat.zero_le _⟩)) (fun r_1 hr_1 => ?_)
  have hq9 : mo_ok nd (nI z) = true := by simp [mo_ok, nI_pos' (show z < 2 ^ 31 by omega), nI_lt hz (show nd < 2 ^ 31 by omega)]
  have hr_1 : r_1 = some (g (20 + 4 * z)) := by rw [hr_1, xa_at, if_pos hq9, nI_clamp (show z < 2 ^ 31 by omega)]
  subst hr_1
  refine sy_tr (y := .ref (g (20 + 4 * z))) rfl ?_
  refine lv_astore (lv' := [(11, .ref (g (20 + 4 * z))), (0, .ref (g 0)), (1, .int (nI z)), (2, .long x), (4, .int kd), (5, .long se), (7, .long v), (9, .long wh)]) hx hb d_DeviceSets_tell_5 hl (by decide) rfl (fun ls hl => ?_)
  refine lv_aload hx hb d_DeviceSets_tell_7 (lv_at hl 0 rfl) ?_
  refine lv_ifnull hx hb d_DeviceSets_tell_9 ?_
  refine lv_lload_n hx hb d_DeviceSets_tell_12 rfl (lv_at hl 3 rfl) ?_
  refine vp_callSi (va_Run.run (sy_runS (As := [.long x]) (rest := []) ⟨hx, hb, hml, hown, ht⟩ cl_DeviceSets_44 (c_DeviceSets_isNumber l G x) hK trivial rfl nm_DeviceSets_isNumber rfl rfl ⟨Nat.le_of_ble_eq_true rfl, Nat.le_of_ble_eq_true rfl⟩ hl.1 (Nat.le_of_ble_eq_true rfl) d_DeviceSets_tell_13 ⟨Nat.zero_le _, Nat.zero_le _⟩)) (fun r_2 hr_2 => ?_)
  subst hr_2
  refine lv_if_eq (tgt := 29) hx hb d_DeviceSets_tell_16 (by decide) (fun c_3 => ?_) (fun c_3 => ?_)
  · have c_3 : (ok_num x) = false := bI_f c_3
    refine lv_iconst (v := (-1)) hx hb d_DeviceSets_tell_29 (by decide) ?_
    exact W.iret (v := (-1 : Int32)) hx hb hr (fun t ht hW => ⟨⟨(-1 : Int32), (nT, fI, fL), rfl, by constructor <;> simp [xm_tell, xm_tok, c_3], by show va_P _ _ _ t.heap; rw [ht]; exact hP⟩, hS.F ht⟩) hS.2.2 d_DeviceSets_tell_30
  · have c_3 : (ok_num x) = true := bI_t c_3
    refine lv_lload_n hx hb d_DeviceSets_tell_19 rfl (lv_at hl 3 rfl) ?_
    refine lv_aload hx hb d_DeviceSets_tell_20 (lv_at hl 0 rfl) ?_
    refine va_getN (D := G.1) (ci := 1) (v := .long fn) (C := R_Device) (T := F_Device) (N := 3) hx hb ht i_Device hown hK.1 hP 11 rfl rfl 2 (by decide) (va_Nw.use rfl (hK.2 _ m_163)) (fun _ h9 => h9) rfl d_DeviceSets_tell_22 ?_
    refine sy_lc_ge (tgt := 31) hx hb d_DeviceSets_tell_25 d_DeviceSets_tell_26 (by decide) (fun c_4 => ?_) (fun c_4 => ?_)
    · have c_4n := sy_c64 c_4
      refine lv_iload hx hb d_DeviceSets_tell_31 (lv_at hl 4 rfl) ?_
      refine vp_callSi (va_Run.run (sy_runS (As := [.int kd]) (rest := []) ⟨hx, hb, hml, hown, ht⟩ cl_DeviceSets_52 (c_DeviceSets_isKind l G kd) hK trivial rfl nm_DeviceSets_isKind rfl rfl ⟨Nat.le_of_ble_eq_true rfl, Nat.le_of_ble_eq_true rfl⟩ hl.1 (Nat.le_of_ble_eq_true rfl) d_DeviceSets_tell_33 ⟨Nat.zero_le _, Nat.zero_le _⟩)) (fun r_5 hr_5 => ?_)
      subst hr_5
      refine lv_if_eq (tgt := 63) hx hb d_DeviceSets_tell_36 (by decide) (fun c_6 => ?_) (fun c_6 => ?_)
      · have c_6 : (ok_kind kd) = false := bI_f c_6
        refine lv_iconst (v := (-1)) hx hb d_DeviceSets_tell_63 (by decide) ?_
        exact W.iret (v := (-1 : Int32)) hx hb hr (fun t ht hW => ⟨⟨(-1 : Int32), (nT, fI, fL), rfl, by constructor <;> simp [xm_tell, xm_tok, c_3, c_4, c_4n, c_6], by show va_P _ _ _ t.heap; rw [ht]; exact hP⟩, hS.F ht⟩) hS.2.2 d_DeviceSets_tell_64
      · have c_6 : (ok_kind kd) = true := bI_t c_6
        refine lv_lload hx hb d_DeviceSets_tell_39 (lv_at hl 5 rfl) ?_
        refine vp_callSi (va_Run.run (sy_runS (As := [.long se]) (rest := []) ⟨hx, hb, hml, hown, ht⟩ cl_DeviceSets_44 (c_DeviceSets_isNumber l G se) hK trivial rfl nm_DeviceSets_isNumber rfl rfl ⟨Nat.le_of_ble_eq_true rfl, Nat.le_of_ble_eq_true rfl⟩ hl.1 (Nat.le_of_ble_eq_true rfl) d_DeviceSets_tell_41 ⟨Nat.zero_le _, Nat.zero_le _⟩)) (fun r_7 hr_7 => ?_)
        subst hr_7
        refine lv_if_eq (tgt := 63) hx hb d_DeviceSets_tell_44 (by decide) (fun c_8 => ?_) (fun c_8 => ?_)
        · have c_8 : (ok_num se) = false := bI_f c_8
          refine lv_iconst (v := (-1)) hx hb d_DeviceSets_tell_63 (by decide) ?_
          exact W.iret (v := (-1 : Int32)) hx hb hr (fun t ht hW => ⟨⟨(-1 : Int32), (nT, fI, fL), rfl, by constructor <;> simp [xm_tell, xm_tok, c_3, c_4, c_4n, c_6, c_8], by show va_P _ _ _ t.heap; rw [ht]; exact hP⟩, hS.F ht⟩) hS.2.2 d_DeviceSets_tell_64
        · have c_8 : (ok_num se) = true := bI_t c_8
          refine lv_lload hx hb d_DeviceSets_tell_47 (lv_at hl 6 rfl) ?_
          refine vp_callSi (va_Run.run (sy_runS (As := [.long v]) (rest := []) ⟨hx, hb, hml, hown, ht⟩ cl_DeviceSets_56 (c_DeviceSets_isValue l G v) hK trivial rfl nm_DeviceSets_isValue rfl rfl ⟨Nat.le_of_ble_eq_true rfl, Nat.le_of_ble_eq_true rfl⟩ hl.1 (Nat.le_of_ble_eq_true rfl) d_DeviceSets_tell_49 ⟨Nat.zero_le _, Nat.zero_le _⟩)) (fun r_9 hr_9 => ?_)
          subst hr_9
          refine lv_if_eq (tgt := 63) hx hb d_DeviceSets_tell_52 (by decide) (fun c_10 => ?_) (fun c_10 => ?_)
          · have c_10 : (ok_val v) = false := bI_f c_10
            refine lv_iconst (v := (-1)) hx hb d_DeviceSets_tell_63 (by decide) ?_
            exact W.iret (v := (-1 : Int32)) hx hb hr (fun t ht hW => ⟨⟨(-1 : Int32), (nT, fI, fL), rfl, by constructor <;> simp [xm_tell, xm_tok, c_3, c_4, c_4n, c_6, c_8, c_10], by show va_P _ _ _ t.heap; rw [ht]; exact hP⟩, hS.F ht⟩) hS.2.2 d_DeviceSets_tell_64
          · have c_10 : (ok_val v) = true := bI_t c_10
            refine lv_lload hx hb d_DeviceSets_tell_55 (lv_at hl 7 rfl) ?_
            refine vp_callSi (va_Run.run (sy_runS (As := [.long wh]) (rest := []) ⟨hx, hb, hml, hown, ht⟩ cl_DeviceSets_44 (c_DeviceSets_isNumber l G wh) hK trivial rfl nm_DeviceSets_isNumber rfl rfl ⟨Nat.le_of_ble_eq_true rfl, Nat.le_of_ble_eq_true rfl⟩ hl.1 (Nat.le_of_ble_eq_true rfl) d_DeviceSets_tell_57 ⟨Nat.zero_le _, Nat.zero_le _⟩)) (fun r_11 hr_11 => ?_)
            subst hr_11
            refine lv_if_ne (tgt := 65) hx hb d_DeviceSets_tell_60 (by decide) (fun c_12 => ?_) (fun c_12 => ?_)
            · have c_12 : (ok_num wh) = true := bI_t c_12
              refine lv_aload_n hx hb d_DeviceSets_tell_65 rfl (lv_at hl 1 rfl) ?_
              refine va_get (D := G.1) (ci := 0) (v := .ref (g 3)) (C := R_DeviceSets) (T := F_DeviceSets) (N := 7) hx hb ht i_DeviceSets hown hK.1 hP 0 rfl rfl 2 (by decide) (ht _ m_115) (fun _ h9 => h9) rfl d_DeviceSets_tell_66 ?_
              refine lv_iload_n hx hb d_DeviceSets_tell_69 rfl (lv_at hl 2 rfl) ?_
              refine lv_aload hx hb d_DeviceSets_tell_70 (lv_at hl 0 rfl) ?_
              refine va_getN (D := G.1) (ci := 1) (v := .int (nI lf)) (C := R_Device) (T := F_Device) (N := 3) hx hb ht i_Device hown hK.1 hP 11 rfl rfl 1 (by decide) (va_Nw.use rfl (hK.2 _ m_162)) (fun _ h9 => h9) rfl d_DeviceSets_tell_72 ?_
              refine lv_lload_n hx hb d_DeviceSets_tell_75 rfl (lv_at hl 3 rfl) ?_
              refine lv_l2i (v := x.toInt32) hx hb d_DeviceSets_tell_76 rfl ?_
              refine lv_iload hx hb d_DeviceSets_tell_77 (lv_at hl 4 rfl) ?_
              refine lv_lload hx hb d_DeviceSets_tell_79 (lv_at hl 5 rfl) ?_
              refine lv_lload hx hb d_DeviceSets_tell_81 (lv_at hl 6 rfl) ?_
              refine vp_callSi (va_Run.run (sy_runV (As := [.int (nI z), .int (nI lf), .int x.toInt32, .int kd, .long se, .long v]) (rest := []) (b := (g 3)) ⟨hx, hb, hml, hown, ht⟩ cl_DeviceSets_62 (c_Tellings_has l G (g 3) (fun k => g (4 + k)) nT fI fL (nI z) (nI lf) x.toInt32 kd se v (by omega)) hK (hP.sub [3, 4, 5, 6, 7, 8, 9, 10] rfl) (va_recv hK.1 hP (ci := 5) (q0 := 3) rfl rfl) rfl nm_Tellings_has rfl rfl ⟨Nat.le_of_ble_eq_true rfl, Nat.le_of_ble_eq_true rfl⟩ hl.1 (Nat.le_of_ble_eq_true rfl) d_DeviceSets_tell_83 ⟨Nat.zero_le _, Nat.zero_le _⟩)) (fun r_13 hr_13 => ?_)
              subst hr_13
              refine lv_if_eq (tgt := 91) hx hb d_DeviceSets_tell_86 (by decide) (fun c_14 => ?_) (fun c_14 => ?_)
              · have c_14 : (tl_has fI fL nT (nI z) (nI lf) x.toInt32 kd se v) = false := bI_f c_14
                refine lv_aload_n hx hb d_DeviceSets_tell_91 rfl (lv_at hl 1 rfl) ?_
                refine va_get (D := G.1) (ci := 0) (v := .ref (g 3)) (C := R_DeviceSets) (T := F_DeviceSets) (N := 7) hx hb ht i_DeviceSets hown hK.1 hP 0 rfl rfl 2 (by decide) (ht _ m_115) (fun _ h9 => h9) rfl d_DeviceSets_tell_92 ?_
                refine lv_iload_n hx hb d_DeviceSets_tell_95 rfl (lv_at hl 2 rfl) ?_
                refine lv_aload hx hb d_DeviceSets_tell_96 (lv_at hl 0 rfl) ?_
                refine va_getN (D := G.1) (ci := 1) (v := .int (nI lf)) (C := R_Device) (T := F_Device) (N := 3) hx hb ht i_Device hown hK.1 hP 11 rfl rfl 1 (by decide) (va_Nw.use rfl (hK.2 _ m_162)) (fun _ h9 => h9) rfl d_DeviceSets_tell_98 ?_
                refine lv_lload_n hx hb d_DeviceSets_tell_101 rfl (lv_at hl 3 rfl) ?_
                refine lv_l2i (v := x.toInt32) hx hb d_DeviceSets_tell_102 rfl ?_
                refine lv_iload hx hb d_DeviceSets_tell_103 (lv_at hl 4 rfl) ?_
                refine lv_lload hx hb d_DeviceSets_tell_105 (lv_at hl 5 rfl) ?_
                refine lv_lload hx hb d_DeviceSets_tell_107 (lv_at hl 6 rfl) ?_
                refine lv_lload hx hb d_DeviceSets_tell_109 (lv_at hl 7 rfl) ?_
                have hPc : va_P G.1 classes (tw G.2 (g 3) (fun k => g (4 + k)) nT fI fL) s.heap := hP.sub [3, 4, 5, 6, 7, 8, 9, 10] rfl
                have hDc : va_D A (tw G.2 (g 3) (fun k => g (4 + k)) nT fI fL) := hD.sub [3, 4, 5, 6, 7, 8, 9, 10] (by decide) rfl
                refine va_calli (sy_runV (As := [.int (nI z), .int (nI lf), .int x.toInt32, .int kd, .long se, .long v, .long wh]) (rest := []) (b := (g 3)) ⟨hx, hb, hml, hown, ht⟩ cl_DeviceSets_66 (c_Tellings_add l G (g 3) (fun k => g (4 + k)) nT fI fL (nI z) (nI lf) x.toInt32 kd se v wh hn) hK ⟨hPc, sy_any hDc⟩ (va_recv hK.1 hPc (ci := 5) (q0 := 0) rfl rfl) rfl nm_Tellings_add rfl rfl ⟨Nat.le_of_ble_eq_true rfl, Nat.le_of_ble_eq_true rfl⟩ hl.1 (Nat.le_of_ble_eq_true rfl) d_DeviceSets_tell_111 ⟨Nat.zero_le _, Nat.zero_le _⟩) hS (fun q _ h => sy_in hDc h) (fun q h => sy_in hDc h) (fun r_15 u_16 t9 H9 locs ht9 hvm9 hw9 hB9 hz9 hk9 hS => ?_)
                obtain ⟨hr_15, hu_16⟩ := hw9
                subst hu_16
                rw [ht9] at hB9
                have hP : va_P G.1 classes (xw G.2 g nd ns nb ++ (tw G.2 (g 3) (fun k => g (4 + k)) ((tl_add nT fI fL (nI z) (nI lf) x.toInt32 kd se v wh).2.1) ((tl_add nT fI fL (nI z) (nI lf) x.toInt32 kd se v wh).2.2.1) ((tl_add nT fI fL (nI z) (nI lf) x.toInt32 kd se v wh).2.2.2) ++ dq G.2 (g (20 + 4 * z)) (g (21 + 4 * z)) (fun k => g (22 + 4 * z + k)) lf fn km kf)) H9 := sy_mix (wc := tw G.2 (g 3) (fun k => g (4 + k)) nT fI fL) hP hD [3, 4, 5, 6, 7, 8, 9, 10] rfl rfl hk9 hB9
                have hD : va_D A (xw G.2 g nd ns nb ++ (tw G.2 (g 3) (fun k => g (4 + k)) ((tl_add nT fI fL (nI z) (nI lf) x.toInt32 kd se v wh).2.1) ((tl_add nT fI fL (nI z) (nI lf) x.toInt32 kd se v wh).2.2.1) ((tl_add nT fI fL (nI z) (nI lf) x.toInt32 kd se v wh).2.2.2) ++ dq G.2 (g (20 + 4 * z)) (g (21 + 4 * z)) (fun k => g (22 + 4 * z + k)) lf fn km kf)) := sy_Da hD rfl
                generalize H9 = H at hP hS ⊢
                subst hr_15
                refine sy_ti (y := bI (tl_add nT fI fL (nI z) (nI lf) x.toInt32 kd se v wh).1) rfl ?_
                refine lv_if_eq (tgt := 121) hx hb d_DeviceSets_tell_114 (by decide) (fun c_17 => ?_) (fun c_17 => ?_)
                · have c_17 : ((tl_add nT fI fL (nI z) (nI lf) x.toInt32 kd se v wh).1) = false := bI_f c_17
                  refine lv_iconst (v := (-1)) hx hb d_DeviceSets_tell_121 (by decide) ?_
                  exact W.iret (v := (-1 : Int32)) hx hb hr (fun t ht hW => ⟨⟨(-1 : Int32), ((tl_add nT fI fL (nI z) (nI lf) x.toInt32 kd se v wh).2.1, (tl_add nT fI fL (nI z) (nI lf) x.toInt32 kd se v wh).2.2.1, (tl_add nT fI fL (nI z) (nI lf) x.toInt32 kd se v wh).2.2.2), rfl, by constructor <;> simp [xm_tell, xm_tok, c_3, c_4, c_4n, c_6, c_8, c_10, c_12, c_14, c_17], by show va_P _ _ _ t.heap; rw [ht]; exact hP⟩, hS.F ht⟩) hS.2.2 d_DeviceSets_tell_122
                · have c_17 : ((tl_add nT fI fL (nI z) (nI lf) x.toInt32 kd se v wh).1) = true := bI_t c_17
                  refine lv_iconst (v := 1) hx hb d_DeviceSets_tell_117 (by decide) ?_
                  refine lv_goto (tgt := 122) hx hb d_DeviceSets_tell_118 (by decide) ?_
                  exact W.iret (v := (1 : Int32)) hx hb hr (fun t ht hW => ⟨⟨(1 : Int32), ((tl_add nT fI fL (nI z) (nI lf) x.toInt32 kd se v wh).2.1, (tl_add nT fI fL (nI z) (nI lf) x.toInt32 kd se v wh).2.2.1, (tl_add nT fI fL (nI z) (nI lf) x.toInt32 kd se v wh).2.2.2), rfl, by constructor <;> simp [xm_tell, xm_tok, c_3, c_4, c_4n, c_6, c_8, c_10, c_12, c_14, c_17], by show va_P _ _ _ t.heap; rw [ht]; exact hP⟩, hS.F ht⟩) hS.2.2 d_DeviceSets_tell_122
              · have c_14 : (tl_has fI fL nT (nI z) (nI lf) x.toInt32 kd se v) = true := bI_t c_14
                refine lv_iconst (v := 0) hx hb d_DeviceSets_tell_89 (by decide) ?_
                exact W.iret (v := (0 : Int32)) hx hb hr (fun t ht hW => ⟨⟨(0 : Int32), (nT, fI, fL), rfl, by constructor <;> simp [xm_tell, xm_tok, c_3, c_4, c_4n, c_6, c_8, c_10, c_12, c_14], by show va_P _ _ _ t.heap; rw [ht]; exact hP⟩, hS.F ht⟩) hS.2.2 d_DeviceSets_tell_90
            · have c_12 : (ok_num wh) = false := bI_f c_12
              refine lv_iconst (v := (-1)) hx hb d_DeviceSets_tell_63 (by decide) ?_
              exact W.iret (v := (-1 : Int32)) hx hb hr (fun t ht hW => ⟨⟨(-1 : Int32), (nT, fI, fL), rfl, by constructor <;> simp [xm_tell, xm_tok, c_3, c_4, c_4n, c_6, c_8, c_10, c_12], by show va_P _ _ _ t.heap; rw [ht]; exact hP⟩, hS.F ht⟩) hS.2.2 d_DeviceSets_tell_64
    · have c_4n := sy_d64 c_4
      refine lv_iconst (v := (-1)) hx hb d_DeviceSets_tell_29 (by decide) ?_
      exact W.iret (v := (-1 : Int32)) hx hb hr (fun t ht hW => ⟨⟨(-1 : Int32), (nT, fI, fL), rfl, by constructor <;> simp [xm_tell, xm_tok, c_3, c_4, c_4n], by show va_P _ _ _ t.heap; rw [ht]; exact hP⟩, hS.F ht⟩) hS.2.2 d_DeviceSets_tell_30
set_option maxHeartbeats 4000000 in
set_option maxRecDepth 100000 in
theorem c_DeviceSets_joinChanges (l : Launch) (G : sy_G) (g : Nat → Nat) (nd : Nat) (ns : Nat) (nb : Nat) (z : Nat) (so : Int32) (sf : Nat → Int64) (sv : Nat → Int64) (y : Nat) (to2 : Int32) (tf : Nat → Int64) (tv : Nat → Int64) (hz : z < ns) (hy : y < ns) (hs : ns ≤ 6) : Met l y_DeviceSets_joinChanges (sy_w y_DeviceSets_joinChanges b_DeviceSets_joinChanges 5 (some .boolean)) { frames := 3, cells := 0, slots := 0, locals := 67 } (va_Pc [.ref (g 0), .int (nI z), .int (nI y)] (sy_KP G (fun H => va_P G.1 classes (xw G.2 g nd ns nb ++ (sq (g (40 + 3 * z)) (g (41 + 3 * z)) (g (42 + 3 * z)) so sf sv ++ sq (g (40 + 3 * y)) (g (41 + 3 * y)) (g (42 + 3 * y)) to2 tf tv)) H ∧ va_D (fun _ => True) (xw G.2 g nd ns nb ++ (sq (g (40 + 3 * z)) (g (41 + 3 * z)) (g (42 + 3 * z)) so sf sv ++ sq (g (40 + 3 * y)) (g (41 + 3 * y)) (g (42 + 3 * y)) to2 tf tv))))) (va_Qi (S := ((Nat → Int64) × (Nat → Int64))) (fun r u => r = bI (to_bring so sf sv tf).1 ∧ u = (to_bring so sf sv tf).2) (fun u t => va_P G.1 classes (xw G.2 g nd ns nb ++ (sq (g (40 + 3 * z)) (g (41 + 3 * z)) (g (42 + 3 * z)) so u.1 u.2 ++ sq (g (40 + 3 * y)) (g (41 + 3 * y)) (g (42 + 3 * y)) to2 tf tv)) t.heap) (sy_A (xw G.2 g nd ns nb ++ (sq (g (40 + 3 * z)) (g (41 + 3 * z)) (g (42 + 3 * z)) so sf sv ++ sq (g (40 + 3 * y)) (g (41 + 3 * y)) (g (42 + 3 * y)) to2 tf tv)))) 0 0 (sy_A (xw G.2 g nd ns nb ++ (sq (g (40 + 3 * z)) (g (41 + 3 * z)) (g (42 + 3 * z)) so sf sv ++ sq (g (40 + 3 * y)) (g (41 + 3 * y)) (g (42 + 3 * y)) to2 tf tv))) := by
  refine Met.ofW (cc := b_DeviceSets_joinChanges) (maxL := 5) (ret := (some .boolean)) (by decide) rfl ?_
  intro p e s m args below meth c s₁ B hml hv
  obtain ⟨rfl, ⟨hP, hD0⟩, hK⟩ := hv
  have hx := B.exec
  have hb := B.bytes
  have hr := B.returns
  have hts := atoms_spec (ws := sy_w y_DeviceSets_joinChanges b_DeviceSets_joinChanges 5 (some .boolean)) B.pre
  have ht : ∀ wd ∈ sy_T, wd.before ([.ref (g 0), .int (nI z), .int (nI y)] : List Value).toArray s = true := fun wd h => hts wd (List.mem_cons_of_mem _ h)
  have hown : s.vm.findClass R_DeviceSets = some m.cls := findClass_of_methodNamed B.named
  have hlocks := B.notSynchronized
  have hD := sy_self hD0
  generalize hAe : sy_A (xw G.2 g nd ns nb ++ (sq (g (40 + 3 * z)) (g (41 + 3 * z)) (g (42 + 3 * z)) so sf sv ++ sq (g (40 + 3 * y)) (g (41 + 3 * y)) (g (42 + 3 * y)) to2 tf tv)) = A at hD ⊢
  have hS : va_S A s.heap s.heap [] := va_S.rf
  have hl := lv_entry ([.ref (g 0), .int (nI z), .int (nI y)]) (n := 5) (Nat.le_of_ble_eq_true rfl)
  rw [lg_entry_eq]
  generalize (lg_sl ([.ref (g 0), .int (nI z), .int (nI y)]) ++ List.replicate (5 - (lg_sl ([.ref (g 0), .int (nI z), .int (nI y)])).length) Slot.unset).toArray = ls at hl ⊢
  have hl : lv_has ls 5 [(0, .ref (g 0)), (1, .int (nI z)), (2, .int (nI y))] := hl
  refine lv_aload_n hx hb d_DeviceSets_joinChanges_0 rfl (lv_at hl 0 rfl) ?_
  refine lv_iload_n hx hb d_DeviceSets_joinChanges_1 rfl (lv_at hl 1 rfl) ?_
  refine va_csq (va_Run.run (sy_runV (As := [.int (nI z)]) (rest := []) (b := (g 0)) ⟨hx, hb, hml, hown, ht⟩ cl_DeviceSets_80 (c_DeviceSets_setAt l G g nd ns nb (nI z) (by omega)) hK (hP.sub [0, 1, 2] rfl) (va_recv hK.1 hP (ci := 0) (q0 := 0) rfl rfl) rfl nm_DeviceSets_setAt rfl rfl ⟨Nat.le_of_ble_eq_true rfl, Nat.le_of_ble_eq_true rfl⟩ hl.1 (Nat.le_of_ble_eq_true rfl) d_DeviceSets_joinChanges_2 ⟨Nat.zero_le _, Nat.zero_le _⟩)) (fun r_1 hr_1 => ?_)
  have hq9 : mo_ok ns (nI z) = true := by simp [mo_ok, nI_pos' (show z < 2 ^ 31 by omega), nI_lt (show z < ns by omega) (show ns < 2 ^ 31 by omega)]
  have hr_1 : r_1 = some (g (40 + 3 * z)) := by rw [hr_1, xa_at, if_pos hq9, nI_clamp (show z < 2 ^ 31 by omega)]
  subst hr_1
  refine sy_tr (y := .ref (g (40 + 3 * z))) rfl ?_
  refine lv_astore_n (lv' := [(3, .ref (g (40 + 3 * z))), (0, .ref (g 0)), (1, .int (nI z)), (2, .int (nI y))]) hx hb d_DeviceSets_joinChanges_5 rfl hl (by decide) rfl (fun ls hl => ?_)
  refine lv_aload_n hx hb d_DeviceSets_joinChanges_6 rfl (lv_at hl 1 rfl) ?_
  refine lv_iload_n hx hb d_DeviceSets_joinChanges_7 rfl (lv_at hl 3 rfl) ?_
  refine va_csq (va_Run.run (sy_runV (As := [.int (nI y)]) (rest := []) (b := (g 0)) ⟨hx, hb, hml, hown, ht⟩ cl_DeviceSets_80 (c_DeviceSets_setAt l G g nd ns nb (nI y) (by omega)) hK (hP.sub [0, 1, 2] rfl) (va_recv hK.1 hP (ci := 0) (q0 := 0) rfl rfl) rfl nm_DeviceSets_setAt rfl rfl ⟨Nat.le_of_ble_eq_true rfl, Nat.le_of_ble_eq_true rfl⟩ hl.1 (Nat.le_of_ble_eq_true rfl) d_DeviceSets_joinChanges_8 ⟨Nat.zero_le _, Nat.zero_le _⟩)) (fun r_2 hr_2 => ?_)
  have hq9 : mo_ok ns (nI y) = true := by simp [mo_ok, nI_pos' (show y < 2 ^ 31 by omega), nI_lt (show y < ns by omega) (show ns < 2 ^ 31 by omega)]
  have hr_2 : r_2 = some (g (40 + 3 * y)) := by rw [hr_2, xa_at, if_pos hq9, nI_clamp (show y < 2 ^ 31 by omega)]
  subst hr_2
  refine sy_tr (y := .ref (g (40 + 3 * y))) rfl ?_
  refine lv_astore (lv' := [(4, .ref (g (40 + 3 * y))), (3, .ref (g (40 + 3 * z))), (0, .ref (g 0)), (1, .int (nI z)), (2, .int (nI y))]) hx hb d_DeviceSets_joinChanges_11 hl (by decide) rfl (fun ls hl => ?_)
  refine lv_aload_n hx hb d_DeviceSets_joinChanges_13 rfl (lv_at hl 1 rfl) ?_
  refine lv_ifnull hx hb d_DeviceSets_joinChanges_14 ?_
  refine lv_aload hx hb d_DeviceSets_joinChanges_17 (lv_at hl 0 rfl) ?_
  refine lv_ifnull hx hb d_DeviceSets_joinChanges_19 ?_
  refine lv_aload_n hx hb d_DeviceSets_joinChanges_22 rfl (lv_at hl 1 rfl) ?_
  refine lv_aload hx hb d_DeviceSets_joinChanges_23 (lv_at hl 0 rfl) ?_
  have hPc : va_P G.1 classes (sq (g (40 + 3 * z)) (g (41 + 3 * z)) (g (42 + 3 * z)) so sf sv ++ sq (g (40 + 3 * y)) (g (41 + 3 * y)) (g (42 + 3 * y)) to2 tf tv) s.heap := hP.sub [3, 4, 5, 6, 7, 8] rfl
  have hDc : va_D A (sq (g (40 + 3 * z)) (g (41 + 3 * z)) (g (42 + 3 * z)) so sf sv ++ sq (g (40 + 3 * y)) (g (41 + 3 * y)) (g (42 + 3 * y)) to2 tf tv) := hD.sub [3, 4, 5, 6, 7, 8] (by decide) rfl
  refine va_calli (sy_runV (As := [.ref (g (40 + 3 * y))]) (rest := []) (b := (g (40 + 3 * z))) ⟨hx, hb, hml, hown, ht⟩ cl_DeviceSets_84 (c_ToldSet_bring l G (g (40 + 3 * z)) (g (41 + 3 * z)) (g (42 + 3 * z)) so sf sv (g (40 + 3 * y)) (g (41 + 3 * y)) (g (42 + 3 * y)) to2 tf tv) hK ⟨hPc, sy_any hDc⟩ (va_recv hK.1 hPc (ci := 4) (q0 := 0) rfl rfl) rfl nm_ToldSet_bring rfl rfl ⟨Nat.le_of_ble_eq_true rfl, Nat.le_of_ble_eq_true rfl⟩ hl.1 (Nat.le_of_ble_eq_true rfl) d_DeviceSets_joinChanges_25 ⟨Nat.zero_le _, Nat.zero_le _⟩) hS (fun q _ h => sy_in hDc h) (fun q h => sy_in hDc h) (fun r_3 u_4 t9 H9 locs ht9 hvm9 hw9 hB9 hz9 hk9 hS => ?_)
  obtain ⟨hr_3, hu_4⟩ := hw9
  subst hu_4
  rw [ht9] at hB9
  have hP : va_P G.1 classes (xw G.2 g nd ns nb ++ (sq (g (40 + 3 * z)) (g (41 + 3 * z)) (g (42 + 3 * z)) so ((to_bring so sf sv tf).2.1) ((to_bring so sf sv tf).2.2) ++ sq (g (40 + 3 * y)) (g (41 + 3 * y)) (g (42 + 3 * y)) to2 tf tv)) H9 := sy_mix (wc := sq (g (40 + 3 * z)) (g (41 + 3 * z)) (g (42 + 3 * z)) so sf sv ++ sq (g (40 + 3 * y)) (g (41 + 3 * y)) (g (42 + 3 * y)) to2 tf tv) hP hD [3, 4, 5, 6, 7, 8] rfl rfl hk9 hB9
  have hD : va_D A (xw G.2 g nd ns nb ++ (sq (g (40 + 3 * z)) (g (41 + 3 * z)) (g (42 + 3 * z)) so ((to_bring so sf sv tf).2.1) ((to_bring so sf sv tf).2.2) ++ sq (g (40 + 3 * y)) (g (41 + 3 * y)) (g (42 + 3 * y)) to2 tf tv)) := sy_Da hD rfl
  generalize H9 = H at hP hS ⊢
  subst hr_3
  refine sy_ti (y := bI (to_bring so sf sv tf).1) rfl ?_
  refine lv_if_eq (tgt := 35) hx hb d_DeviceSets_joinChanges_28 (by decide) (fun c_5 => ?_) (fun c_5 => ?_)
  · have c_5 : ((to_bring so sf sv tf).1) = false := bI_f c_5
    refine lv_iconst (v := 0) hx hb d_DeviceSets_joinChanges_35 (by decide) ?_
    exact W.zret (v := (0 : Int32)) hx hb hr (rfl) (fun t ht hW => ⟨⟨(0 : Int32), ((to_bring so sf sv tf).2.1, (to_bring so sf sv tf).2.2), rfl, by constructor <;> simp [bI, c_5], by show va_P _ _ _ t.heap; rw [ht]; exact hP⟩, hS.F ht⟩) hS.2.2 d_DeviceSets_joinChanges_36
  · have c_5 : ((to_bring so sf sv tf).1) = true := bI_t c_5
    refine lv_iconst (v := 1) hx hb d_DeviceSets_joinChanges_31 (by decide) ?_
    refine lv_goto (tgt := 36) hx hb d_DeviceSets_joinChanges_32 (by decide) ?_
    exact W.zret (v := (1 : Int32)) hx hb hr (rfl) (fun t ht hW => ⟨⟨(1 : Int32), ((to_bring so sf sv tf).2.1, (to_bring so sf sv tf).2.2), rfl, by constructor <;> simp [bI, c_5], by show va_P _ _ _ t.heap; rw [ht]; exact hP⟩, hS.F ht⟩) hS.2.2 d_DeviceSets_joinChanges_36
set_option maxHeartbeats 4000000 in
set_option maxRecDepth 100000 in
theorem c_DeviceSets_join (l : Launch) (G : sy_G) (g : Nat → Nat) (nd : Nat) (ns : Nat) (nb : Nat) (nT : Nat) (fI : Nat → Nat → Int32) (fL : Nat → Nat → Int64) (z : Nat) (so : Int32) (sf : Nat → Int64) (sv : Nat → Int64) (y : Nat) (to2 : Int32) (tf : Nat → Int64) (tv : Nat → Int64) (hz : z < ns) (hy : y < ns) (hs : ns ≤ 6) (hn : nT ≤ 60) : Met l y_DeviceSets_join (sy_w y_DeviceSets_join b_DeviceSets_join 5 (some .int)) { frames := 5, cells := 0, slots := 0, locals := 120 } (va_Pc [.ref (g 0), .int (nI z), .int (nI y)] (sy_KP G (fun H => va_P G.1 classes (xw G.2 g nd ns nb ++ (tw G.2 (g 3) (fun k => g (4 + k)) nT fI fL ++ (sq (g (40 + 3 * z)) (g (41 + 3 * z)) (g (42 + 3 * z)) so sf sv ++ sq (g (40 + 3 * y)) (g (41 + 3 * y)) (g (42 + 3 * y)) to2 tf tv))) H ∧ va_D (fun _ => True) (xw G.2 g nd ns nb ++ (tw G.2 (g 3) (fun k => g (4 + k)) nT fI fL ++ (sq (g (40 + 3 * z)) (g (41 + 3 * z)) (g (42 + 3 * z)) so sf sv ++ sq (g (40 + 3 * y)) (g (41 + 3 * y)) (g (42 + 3 * y)) to2 tf tv)))))) (va_Qi (S := ((Nat → Int64) × (Nat → Int64))) (fun r u => r = (xm_join nT fI fL so sf sv tf).1 ∧ u = (xm_join nT fI fL so sf sv tf).2) (fun u t => va_P G.1 classes (xw G.2 g nd ns nb ++ (tw G.2 (g 3) (fun k => g (4 + k)) nT fI fL ++ (sq (g (40 + 3 * z)) (g (41 + 3 * z)) (g (42 + 3 * z)) so u.1 u.2 ++ sq (g (40 + 3 * y)) (g (41 + 3 * y)) (g (42 + 3 * y)) to2 tf tv))) t.heap) (sy_A (xw G.2 g nd ns nb ++ (tw G.2 (g 3) (fun k => g (4 + k)) nT fI fL ++ (sq (g (40 + 3 * z)) (g (41 + 3 * z)) (g (42 + 3 * z)) so sf sv ++ sq (g (40 + 3 * y)) (g (41 + 3 * y)) (g (42 + 3 * y)) to2 tf tv))))) 0 0 (sy_A (xw G.2 g nd ns nb ++ (tw G.2 (g 3) (fun k => g (4 + k)) nT fI fL ++ (sq (g (40 + 3 * z)) (g (41 + 3 * z)) (g (42 + 3 * z)) so sf sv ++ sq (g (40 + 3 * y)) (g (41 + 3 * y)) (g (42 + 3 * y)) to2 tf tv)))) := by
  refine Met.ofW (cc := b_DeviceSets_join) (maxL := 5) (ret := (some .int)) (by decide) rfl ?_
  intro p e s m args below meth c s₁ B hml hv
  obtain ⟨rfl, ⟨hP, hD0⟩, hK⟩ := hv
  have hx := B.exec
  have hb := B.bytes
  have hr := B.returns
  have hts := atoms_spec (ws := sy_w y_DeviceSets_join b_DeviceSets_join 5 (some .int)) B.pre
  have ht : ∀ wd ∈ sy_T, wd.before ([.ref (g 0), .int (nI z), .int (nI y)] : List Value).toArray s = true := fun wd h => hts wd (List.mem_cons_of_mem _ h)
  have hown : s.vm.findClass R_DeviceSets = some m.cls := findClass_of_methodNamed B.named
  have hlocks := B.notSynchronized
  have hD := sy_self hD0
  generalize hAe : sy_A (xw G.2 g nd ns nb ++ (tw G.2 (g 3) (fun k => g (4 + k)) nT fI fL ++ (sq (g (40 + 3 * z)) (g (41 + 3 * z)) (g (42 + 3 * z)) so sf sv ++ sq (g (40 + 3 * y)) (g (41 + 3 * y)) (g (42 + 3 * y)) to2 tf tv))) = A at hD ⊢
  have hS : va_S A s.heap s.heap [] := va_S.rf
  have hl := lv_entry ([.ref (g 0), .int (nI z), .int (nI y)]) (n := 5) (Nat.le_of_ble_eq_true rfl)
  rw [lg_entry_eq]
  generalize (lg_sl ([.ref (g 0), .int (nI z), .int (nI y)]) ++ List.replicate (5 - (lg_sl ([.ref (g 0), .int (nI z), .int (nI y)])).length) Slot.unset).toArray = ls at hl ⊢
  have hl : lv_has ls 5 [(0, .ref (g 0)), (1, .int (nI z)), (2, .int (nI y))] := hl
  refine lv_aload_n hx hb d_DeviceSets_join_0 rfl (lv_at hl 0 rfl) ?_
  refine lv_iload_n hx hb d_DeviceSets_join_1 rfl (lv_at hl 1 rfl) ?_
  refine va_csq (va_Run.run (sy_runV (As := [.int (nI z)]) (rest := []) (b := (g 0)) ⟨hx, hb, hml, hown, ht⟩ cl_DeviceSets_80 (c_DeviceSets_setAt l G g nd ns nb (nI z) (by omega)) hK (hP.sub [0, 1, 2] rfl) (va_recv hK.1 hP (ci := 0) (q0 := 0) rfl rfl) rfl nm_DeviceSets_setAt rfl rfl ⟨Nat.le_of_ble_eq_true rfl, Nat.le_of_ble_eq_true rfl⟩ hl.1 (Nat.le_of_ble_eq_true rfl) d_DeviceSets_join_2 ⟨Nat.zero_le _, Nat.zero_le _⟩)) (fun r_1 hr_1 => ?_)
  have hq9 : mo_ok ns (nI z) = true := by simp [mo_ok, nI_pos' (show z < 2 ^ 31 by omega), nI_lt (show z < ns by omega) (show ns < 2 ^ 31 by omega)]
  have hr_1 : r_1 = some (g (40 + 3 * z)) := by rw [hr_1, xa_at, if_pos hq9, nI_clamp (show z < 2 ^ 31 by omega)]
  subst hr_1
  refine sy_tr (y := .ref (g (40 + 3 * z))) rfl ?_
  refine lv_astore_n (lv' := [(3, .ref (g (40 + 3 * z))), (0, .ref (g 0)), (1, .int (nI z)), (2, .int (nI y))]) hx hb d_DeviceSets_join_5 rfl hl (by decide) rfl (fun ls hl => ?_)
  refine lv_aload_n hx hb d_DeviceSets_join_6 rfl (lv_at hl 1 rfl) ?_
  refine lv_iload_n hx hb d_DeviceSets_join_7 rfl (lv_at hl 3 rfl) ?_
  refine va_csq (va_Run.run (sy_runV (As := [.int (nI y)]) (rest := []) (b := (g 0)) ⟨hx, hb, hml, hown, ht⟩ cl_DeviceSets_80 (c_DeviceSets_setAt l G g nd ns nb (nI y) (by omega)) hK (hP.sub [0, 1, 2] rfl) (va_recv hK.1 hP (ci := 0) (q0 := 0) rfl rfl) rfl nm_DeviceSets_setAt rfl rfl ⟨Nat.le_of_ble_eq_true rfl, Nat.le_of_ble_eq_true rfl⟩ hl.1 (Nat.le_of_ble_eq_true rfl) d_DeviceSets_join_8 ⟨Nat.zero_le _, Nat.zero_le _⟩)) (fun r_2 hr_2 => ?_)
  have hq9 : mo_ok ns (nI y) = true := by simp [mo_ok, nI_pos' (show y < 2 ^ 31 by omega), nI_lt (show y < ns by omega) (show ns < 2 ^ 31 by omega)]
  have hr_2 : r_2 = some (g (40 + 3 * y)) := by rw [hr_2, xa_at, if_pos hq9, nI_clamp (show y < 2 ^ 31 by omega)]
  subst hr_2
  refine sy_tr (y := .ref (g (40 + 3 * y))) rfl ?_
  refine lv_astore (lv' := [(4, .ref (g (40 + 3 * y))), (3, .ref (g (40 + 3 * z))), (0, .ref (g 0)), (1, .int (nI z)), (2, .int (nI y))]) hx hb d_DeviceSets_join_11 hl (by decide) rfl (fun ls hl => ?_)
  refine lv_aload_n hx hb d_DeviceSets_join_13 rfl (lv_at hl 1 rfl) ?_
  refine lv_ifnull hx hb d_DeviceSets_join_14 ?_
  refine lv_aload hx hb d_DeviceSets_join_17 (lv_at hl 0 rfl) ?_
  refine lv_ifnonnull (tgt := 24) hx hb d_DeviceSets_join_19 (by decide) ?_
  refine lv_aload_n hx hb d_DeviceSets_join_24 rfl (lv_at hl 1 rfl) ?_
  refine lv_aload hx hb d_DeviceSets_join_25 (lv_at hl 0 rfl) ?_
  have hPc : va_P G.1 classes (sq (g (40 + 3 * z)) (g (41 + 3 * z)) (g (42 + 3 * z)) so sf sv ++ sq (g (40 + 3 * y)) (g (41 + 3 * y)) (g (42 + 3 * y)) to2 tf tv) s.heap := hP.sub [11, 12, 13, 14, 15, 16] rfl
  have hDc : va_D A (sq (g (40 + 3 * z)) (g (41 + 3 * z)) (g (42 + 3 * z)) so sf sv ++ sq (g (40 + 3 * y)) (g (41 + 3 * y)) (g (42 + 3 * y)) to2 tf tv) := hD.sub [11, 12, 13, 14, 15, 16] (by decide) rfl
  refine va_calli (sy_runV (As := [.ref (g (40 + 3 * y))]) (rest := []) (b := (g (40 + 3 * z))) ⟨hx, hb, hml, hown, ht⟩ cl_DeviceSets_84 (c_ToldSet_bring l G (g (40 + 3 * z)) (g (41 + 3 * z)) (g (42 + 3 * z)) so sf sv (g (40 + 3 * y)) (g (41 + 3 * y)) (g (42 + 3 * y)) to2 tf tv) hK ⟨hPc, sy_any hDc⟩ (va_recv hK.1 hPc (ci := 4) (q0 := 0) rfl rfl) rfl nm_ToldSet_bring rfl rfl ⟨Nat.le_of_ble_eq_true rfl, Nat.le_of_ble_eq_true rfl⟩ hl.1 (Nat.le_of_ble_eq_true rfl) d_DeviceSets_join_27 ⟨Nat.zero_le _, Nat.zero_le _⟩) hS (fun q _ h => sy_in hDc h) (fun q h => sy_in hDc h) (fun r_3 u_4 t9 H9 locs ht9 hvm9 hw9 hB9 hz9 hk9 hS => ?_)
  obtain ⟨hr_3, hu_4⟩ := hw9
  subst hu_4
  rw [ht9] at hB9
  have hP : va_P G.1 classes (xw G.2 g nd ns nb ++ (tw G.2 (g 3) (fun k => g (4 + k)) nT fI fL ++ (sq (g (40 + 3 * z)) (g (41 + 3 * z)) (g (42 + 3 * z)) so ((to_bring so sf sv tf).2.1) ((to_bring so sf sv tf).2.2) ++ sq (g (40 + 3 * y)) (g (41 + 3 * y)) (g (42 + 3 * y)) to2 tf tv))) H9 := sy_mix (wc := sq (g (40 + 3 * z)) (g (41 + 3 * z)) (g (42 + 3 * z)) so sf sv ++ sq (g (40 + 3 * y)) (g (41 + 3 * y)) (g (42 + 3 * y)) to2 tf tv) hP hD [11, 12, 13, 14, 15, 16] rfl rfl hk9 hB9
  have hD : va_D A (xw G.2 g nd ns nb ++ (tw G.2 (g 3) (fun k => g (4 + k)) nT fI fL ++ (sq (g (40 + 3 * z)) (g (41 + 3 * z)) (g (42 + 3 * z)) so ((to_bring so sf sv tf).2.1) ((to_bring so sf sv tf).2.2) ++ sq (g (40 + 3 * y)) (g (41 + 3 * y)) (g (42 + 3 * y)) to2 tf tv))) := sy_Da hD rfl
  generalize H9 = H at hP hS ⊢
  subst hr_3
  refine sy_ti (y := bI (to_bring so sf sv tf).1) rfl ?_
  refine lv_pop hx hb d_DeviceSets_join_30 rfl ?_
  refine lv_aload_n hx hb d_DeviceSets_join_31 rfl (lv_at hl 2 rfl) ?_
  refine lv_aload_n hx hb d_DeviceSets_join_32 rfl (lv_at hl 1 rfl) ?_
  refine va_getN (D := G.1) (ci := 4) (v := .ref (g (41 + 3 * z))) (C := R_ToldSet) (T := F_ToldSet) (N := 3) hx hb ht i_ToldSet hown hK.1 hP 11 rfl rfl 0 (by decide) (va_Nw.use rfl (hK.2 _ m_248)) (fun _ h9 => h9) rfl d_DeviceSets_join_33 ?_
  refine vp_callSl (va_Run.run (sy_runV (As := [.ref (g (41 + 3 * z))]) (rest := []) (b := (g 0)) ⟨hx, hb, hml, hown, ht⟩ cl_DeviceSets_92 (c_DeviceSets_conflictsIn l G g nd ns nb nT fI fL (g (41 + 3 * z)) ((to_bring so sf sv tf).2.1) (by omega)) hK ⟨(hP.sub [0, 1, 2] rfl), (hP.sub [3, 4, 5, 6, 7, 8, 9, 10] rfl), (hP.sub [12] rfl)⟩ (va_recv hK.1 hP (ci := 0) (q0 := 0) rfl rfl) rfl nm_DeviceSets_conflictsIn rfl rfl ⟨Nat.le_of_ble_eq_true rfl, Nat.le_of_ble_eq_true rfl⟩ hl.1 (Nat.le_of_ble_eq_true rfl) d_DeviceSets_join_36 ⟨Nat.zero_le _, Nat.zero_le _⟩)) (fun r_5 hr_5 => ?_)
  subst hr_5
  refine vp_callSi (va_Run.run (sy_runS (As := [.long (xl_conf fI fL nT ((to_bring so sf sv tf).2.1))]) (rest := []) ⟨hx, hb, hml, hown, ht⟩ cl_DeviceSets_96 (c_Long_bitCount l G (xl_conf fI fL nT ((to_bring so sf sv tf).2.1))) hK trivial rfl nm_Long_bitCount rfl rfl ⟨Nat.le_of_ble_eq_true rfl, Nat.le_of_ble_eq_true rfl⟩ hl.1 (Nat.le_of_ble_eq_true rfl) d_DeviceSets_join_39 ⟨Nat.zero_le _, Nat.zero_le _⟩)) (fun r_6 hr_6 => ?_)
  subst hr_6
  exact W.iret (v := lb_pc (xl_conf fI fL nT ((to_bring so sf sv tf).2.1))) hx hb hr (fun t ht hW => ⟨⟨lb_pc (xl_conf fI fL nT ((to_bring so sf sv tf).2.1)), ((to_bring so sf sv tf).2.1, (to_bring so sf sv tf).2.2), rfl, by constructor <;> simp [xm_join, ], by show va_P _ _ _ t.heap; rw [ht]; exact hP⟩, hS.F ht⟩) hS.2.2 d_DeviceSets_join_42
set_option maxHeartbeats 4000000 in
set_option maxRecDepth 100000 in
theorem c_DeviceSets_joinS (l : Launch) (G : sy_G) (g : Nat → Nat) (nd : Nat) (ns : Nat) (nb : Nat) (nT : Nat) (fI : Nat → Nat → Int32) (fL : Nat → Nat → Int64) (z : Nat) (so : Int32) (sf : Nat → Int64) (sv : Nat → Int64) (hz : z < ns) (hs : ns ≤ 6) (hn : nT ≤ 60) : Met l y_DeviceSets_join (sy_w y_DeviceSets_join b_DeviceSets_join 5 (some .int)) { frames := 5, cells := 0, slots := 0, locals := 120 } (va_Pc [.ref (g 0), .int (nI z), .int (nI z)] (sy_KP G (fun H => va_P G.1 classes (xw G.2 g nd ns nb ++ (tw G.2 (g 3) (fun k => g (4 + k)) nT fI fL ++ sq (g (40 + 3 * z)) (g (41 + 3 * z)) (g (42 + 3 * z)) so sf sv)) H ∧ va_D (fun _ => True) (xw G.2 g nd ns nb ++ (tw G.2 (g 3) (fun k => g (4 + k)) nT fI fL ++ sq (g (40 + 3 * z)) (g (41 + 3 * z)) (g (42 + 3 * z)) so sf sv))))) (va_Qi (S := ((Nat → Int64) × (Nat → Int64))) (fun r u => r = (xm_join nT fI fL so sf sv sf).1 ∧ u = (xm_join nT fI fL so sf sv sf).2) (fun u t => va_P G.1 classes (xw G.2 g nd ns nb ++ (tw G.2 (g 3) (fun k => g (4 + k)) nT fI fL ++ sq (g (40 + 3 * z)) (g (41 + 3 * z)) (g (42 + 3 * z)) so u.1 u.2)) t.heap) (sy_A (xw G.2 g nd ns nb ++ (tw G.2 (g 3) (fun k => g (4 + k)) nT fI fL ++ sq (g (40 + 3 * z)) (g (41 + 3 * z)) (g (42 + 3 * z)) so sf sv)))) 0 0 (sy_A (xw G.2 g nd ns nb ++ (tw G.2 (g 3) (fun k => g (4 + k)) nT fI fL ++ sq (g (40 + 3 * z)) (g (41 + 3 * z)) (g (42 + 3 * z)) so sf sv))) := by
  refine Met.ofW (cc := b_DeviceSets_join) (maxL := 5) (ret := (some .int)) (by decide) rfl ?_
  intro p e s m args below meth c s₁ B hml hv
  obtain ⟨rfl, ⟨hP, hD0⟩, hK⟩ := hv
  have hx := B.exec
  have hb := B.bytes
  have hr := B.returns
  have hts := atoms_spec (ws := sy_w y_DeviceSets_join b_DeviceSets_join 5 (some .int)) B.pre
  have ht : ∀ wd ∈ sy_T, wd.before ([.ref (g 0), .int (nI z), .int (nI z)] : List Value).toArray s = true := fun wd h => hts wd (List.mem_cons_of_mem _ h)
  have hown : s.vm.findClass R_DeviceSets = some m.cls := findClass_of_methodNamed B.named
  have hlocks := B.notSynchronized
  have hD := sy_self hD0
  generalize hAe : sy_A (xw G.2 g nd ns nb ++ (tw G.2 (g 3) (fun k => g (4 + k)) nT fI fL ++ sq (g (40 + 3 * z)) (g (41 + 3 * z)) (g (42 + 3 * z)) so sf sv)) = A at hD ⊢
  have hS : va_S A s.heap s.heap [] := va_S.rf
  have hl := lv_entry ([.ref (g 0), .int (nI z), .int (nI z)]) (n := 5) (Nat.le_of_ble_eq_true rfl)
  rw [lg_entry_eq]
  generalize (lg_sl ([.ref (g 0), .int (nI z), .int (nI z)]) ++ List.replicate (5 - (lg_sl ([.ref (g 0), .int (nI z), .int (nI z)])).length) Slot.unset).toArray = ls at hl ⊢
  have hl : lv_has ls 5 [(0, .ref (g 0)), (1, .int (nI z)), (2, .int (nI z))] := hl
  refine lv_aload_n hx hb d_DeviceSets_join_0 rfl (lv_at hl 0 rfl) ?_
  refine lv_iload_n hx hb d_DeviceSets_join_1 rfl (lv_at hl 1 rfl) ?_
  refine va_csq (va_Run.run (sy_runV (As := [.int (nI z)]) (rest := []) (b := (g 0)) ⟨hx, hb, hml, hown, ht⟩ cl_DeviceSets_80 (c_DeviceSets_setAt l G g nd ns nb (nI z) (by omega)) hK (hP.sub [0, 1, 2] rfl) (va_recv hK.1 hP (ci := 0) (q0 := 0) rfl rfl) rfl nm_DeviceSets_setAt rfl rfl ⟨Nat.le_of_ble_eq_true rfl, Nat.le_of_ble_eq_true rfl⟩ hl.1 (Nat.le_of_ble_eq_true rfl) d_DeviceSets_join_2 ⟨Nat.zero_le _, Nat.zero_le _⟩)) (fun r_1 hr_1 => ?_)
  have hq9 : mo_ok ns (nI z) = true := by simp [mo_ok, nI_pos' (show z < 2 ^ 31 by omega), nI_lt (show z < ns by omega) (show ns < 2 ^ 31 by omega)]
  have hr_1 : r_1 = some (g (40 + 3 * z)) := by rw [hr_1, xa_at, if_pos hq9, nI_clamp (show z < 2 ^ 31 by omega)]
  subst hr_1
  refine sy_tr (y := .ref (g (40 + 3 * z))) rfl ?_
  refine lv_astore_n (lv' := [(3, .ref (g (40 + 3 * z))), (0, .ref (g 0)), (1, .int (nI z)), (2, .int (nI z))]) hx hb d_DeviceSets_join_5 rfl hl (by decide) rfl (fun ls hl => ?_)
  refine lv_aload_n hx hb d_DeviceSets_join_6 rfl (lv_at hl 1 rfl) ?_
  refine lv_iload_n hx hb d_DeviceSets_join_7 rfl (lv_at hl 3 rfl) ?_
  refine va_csq (va_Run.run (sy_runV (As := [.int (nI z)]) (rest := []) (b := (g 0)) ⟨hx, hb, hml, hown, ht⟩ cl_DeviceSets_80 (c_DeviceSets_setAt l G g nd ns nb (nI z) (by omega)) hK (hP.sub [0, 1, 2] rfl) (va_recv hK.1 hP (ci := 0) (q0 := 0) rfl rfl) rfl nm_DeviceSets_setAt rfl rfl ⟨Nat.le_of_ble_eq_true rfl, Nat.le_of_ble_eq_true rfl⟩ hl.1 (Nat.le_of_ble_eq_true rfl) d_DeviceSets_join_8 ⟨Nat.zero_le _, Nat.zero_le _⟩)) (fun r_2 hr_2 => ?_)
  have hq9 : mo_ok ns (nI z) = true := by simp [mo_ok, nI_pos' (show z < 2 ^ 31 by omega), nI_lt (show z < ns by omega) (show ns < 2 ^ 31 by omega)]
  have hr_2 : r_2 = some (g (40 + 3 * z)) := by rw [hr_2, xa_at, if_pos hq9, nI_clamp (show z < 2 ^ 31 by omega)]
  subst hr_2
  refine sy_tr (y := .ref (g (40 + 3 * z))) rfl ?_
  refine lv_astore (lv' := [(4, .ref (g (40 + 3 * z))), (3, .ref (g (40 + 3 * z))), (0, .ref (g 0)), (1, .int (nI z)), (2, .int (nI z))]) hx hb d_DeviceSets_join_11 hl (by decide) rfl (fun ls hl => ?_)
  refine lv_aload_n hx hb d_DeviceSets_join_13 rfl (lv_at hl 1 rfl) ?_
  refine lv_ifnull hx hb d_DeviceSets_join_14 ?_
  refine lv_aload hx hb d_DeviceSets_join_17 (lv_at hl 0 rfl) ?_
  refine lv_ifnonnull (tgt := 24) hx hb d_DeviceSets_join_19 (by decide) ?_
  refine lv_aload_n hx hb d_DeviceSets_join_24 rfl (lv_at hl 1 rfl) ?_
  refine lv_aload hx hb d_DeviceSets_join_25 (lv_at hl 0 rfl) ?_
  have hPc : va_P G.1 classes (sq (g (40 + 3 * z)) (g (41 + 3 * z)) (g (42 + 3 * z)) so sf sv) s.heap := hP.sub [11, 12, 13] rfl
  have hDc : va_D A (sq (g (40 + 3 * z)) (g (41 + 3 * z)) (g (42 + 3 * z)) so sf sv) := hD.sub [11, 12, 13] (by decide) rfl
  refine va_calli (sy_runV (As := [.ref (g (40 + 3 * z))]) (rest := []) (b := (g (40 + 3 * z))) ⟨hx, hb, hml, hown, ht⟩ cl_DeviceSets_84 (c_ToldSet_bringS l G (g (40 + 3 * z)) (g (41 + 3 * z)) (g (42 + 3 * z)) so sf sv) hK ⟨hPc, sy_any hDc⟩ (va_recv hK.1 hPc (ci := 4) (q0 := 0) rfl rfl) rfl nm_ToldSet_bring rfl rfl ⟨Nat.le_of_ble_eq_true rfl, Nat.le_of_ble_eq_true rfl⟩ hl.1 (Nat.le_of_ble_eq_true rfl) d_DeviceSets_join_27 ⟨Nat.zero_le _, Nat.zero_le _⟩) hS (fun q _ h => sy_in hDc h) (fun q h => sy_in hDc h) (fun r_3 u_4 t9 H9 locs ht9 hvm9 hw9 hB9 hz9 hk9 hS => ?_)
  obtain ⟨hr_3, hu_4⟩ := hw9
  subst hu_4
  rw [ht9] at hB9
  have hP : va_P G.1 classes (xw G.2 g nd ns nb ++ (tw G.2 (g 3) (fun k => g (4 + k)) nT fI fL ++ sq (g (40 + 3 * z)) (g (41 + 3 * z)) (g (42 + 3 * z)) so ((to_bring so sf sv sf).2.1) ((to_bring so sf sv sf).2.2))) H9 := sy_mix (wc := sq (g (40 + 3 * z)) (g (41 + 3 * z)) (g (42 + 3 * z)) so sf sv) hP hD [11, 12, 13] rfl rfl hk9 hB9
  have hD : va_D A (xw G.2 g nd ns nb ++ (tw G.2 (g 3) (fun k => g (4 + k)) nT fI fL ++ sq (g (40 + 3 * z)) (g (41 + 3 * z)) (g (42 + 3 * z)) so ((to_bring so sf sv sf).2.1) ((to_bring so sf sv sf).2.2))) := sy_Da hD rfl
  generalize H9 = H at hP hS ⊢
  subst hr_3
  refine sy_ti (y := bI (to_bring so sf sv sf).1) rfl ?_
  refine lv_pop hx hb d_DeviceSets_join_30 rfl ?_
  refine lv_aload_n hx hb d_DeviceSets_join_31 rfl (lv_at hl 2 rfl) ?_
  refine lv_aload_n hx hb d_DeviceSets_join_32 rfl (lv_at hl 1 rfl) ?_
  refine va_getN (D := G.1) (ci := 4) (v := .ref (g (41 + 3 * z))) (C := R_ToldSet) (T := F_ToldSet) (N := 3) hx hb ht i_ToldSet hown hK.1 hP 11 rfl rfl 0 (by decide) (va_Nw.use rfl (hK.2 _ m_248)) (fun _ h9 => h9) rfl d_DeviceSets_join_33 ?_
  refine vp_callSl (va_Run.run (sy_runV (As := [.ref (g (41 + 3 * z))]) (rest := []) (b := (g 0)) ⟨hx, hb, hml, hown, ht⟩ cl_DeviceSets_92 (c_DeviceSets_conflictsIn l G g nd ns nb nT fI fL (g (41 + 3 * z)) ((to_bring so sf sv sf).2.1) (by omega)) hK ⟨(hP.sub [0, 1, 2] rfl), (hP.sub [3, 4, 5, 6, 7, 8, 9, 10] rfl), (hP.sub [12] rfl)⟩ (va_recv hK.1 hP (ci := 0) (q0 := 0) rfl rfl) rfl nm_DeviceSets_conflictsIn rfl rfl ⟨Nat.le_of_ble_eq_true rfl, Nat.le_of_ble_eq_true rfl⟩ hl.1 (Nat.le_of_ble_eq_true rfl) d_DeviceSets_join_36 ⟨Nat.zero_le _, Nat.zero_le _⟩)) (fun r_5 hr_5 => ?_)
  subst hr_5
  refine vp_callSi (va_Run.run (sy_runS (As := [.long (xl_conf fI fL nT ((to_bring so sf sv sf).2.1))]) (rest := []) ⟨hx, hb, hml, hown, ht⟩ cl_DeviceSets_96 (c_Long_bitCount l G (xl_conf fI fL nT ((to_bring so sf sv sf).2.1))) hK trivial rfl nm_Long_bitCount rfl rfl ⟨Nat.le_of_ble_eq_true rfl, Nat.le_of_ble_eq_true rfl⟩ hl.1 (Nat.le_of_ble_eq_true rfl) d_DeviceSets_join_39 ⟨Nat.zero_le _, Nat.zero_le _⟩)) (fun r_6 hr_6 => ?_)
  subst hr_6
  exact W.iret (v := lb_pc (xl_conf fI fL nT ((to_bring so sf sv sf).2.1))) hx hb hr (fun t ht hW => ⟨⟨lb_pc (xl_conf fI fL nT ((to_bring so sf sv sf).2.1)), ((to_bring so sf sv sf).2.1, (to_bring so sf sv sf).2.2), rfl, by constructor <;> simp [xm_join, ], by show va_P _ _ _ t.heap; rw [ht]; exact hP⟩, hS.F ht⟩) hS.2.2 d_DeviceSets_join_42
