set_option maxHeartbeats 4000000 in
set_option maxRecDepth 100000 in
theorem c_DeviceSets_reset (l : Launch) (G : sy_G) (g : Nat → Nat) (nd : Nat) (ns : Nat) (nb : Nat) (z : Nat) (lf : Nat) (fn : Int64) (km : Nat) (kf : Nat → Nat → Int64) (x : Int64) (hz : z < nd) (hd : nd ≤ 4) (hlf : lf ≤ 99) : Met l y_DeviceSets_reset (sy_w y_DeviceSets_reset b_DeviceSets_reset 5 (some .boolean)) { frames := 1, cells := 0, slots := 0, locals := 21 } (va_Pc [.ref (g 0), .int (nI z), .long x] (sy_KP G (fun H => va_P G.1 classes (xw G.2 g nd ns nb ++ dq G.2 (g (20 + 4 * z)) (g (21 + 4 * z)) (fun k => g (22 + 4 * z + k)) lf fn km kf) H ∧ va_D (fun _ => True) (xw G.2 g nd ns nb ++ dq G.2 (g (20 + 4 * z)) (g (21 + 4 * z)) (fun k => g (22 + 4 * z + k)) lf fn km kf)))) (va_Qi (S := (Nat × Int64)) (fun r u => r = bI (xm_reset lf fn x).1 ∧ u = (xm_reset lf fn x).2) (fun u t => va_P G.1 classes (xw G.2 g nd ns nb ++ dq G.2 (g (20 + 4 * z)) (g (21 + 4 * z)) (fun k => g (22 + 4 * z + k)) u.1 u.2 km kf) t.heap) (sy_A (xw G.2 g nd ns nb ++ dq G.2 (g (20 + 4 * z)) (g (21 + 4 * z)) (fun k => g (22 + 4 * z + k)) lf fn km kf))) 0 0 (sy_A (xw G.2 g nd ns nb ++ dq G.2 (g (20 + 4 * z)) (g (21 + 4 * z)) (fun k => g (22 + 4 * z + k)) lf fn km kf)) := by
  refine Met.ofW (cc := b_DeviceSets_reset) (maxL := 5) (ret := (some .boolean)) (by decide) rfl ?_
  intro p e s m args below meth c s₁ B hml hv
  obtain ⟨rfl, ⟨hP, hD0⟩, hK⟩ := hv
  have hx := B.exec
  have hb := B.bytes
  have hr := B.returns
  have hts := atoms_spec (ws := sy_w y_DeviceSets_reset b_DeviceSets_reset 5 (some .boolean)) B.pre
  have ht : ∀ wd ∈ sy_T, wd.before ([.ref (g 0), .int (nI z), .long x] : List Value).toArray s = true := fun wd h => hts wd (List.mem_cons_of_mem _ h)
  have hown : s.vm.findClass R_DeviceSets = some m.cls := findClass_of_methodNamed B.named
  have hlocks := B.notSynchronized
  have hD := sy_self hD0
  generalize hAe : sy_A (xw G.2 g nd ns nb ++ dq G.2 (g (20 + 4 * z)) (g (21 + 4 * z)) (fun k => g (22 + 4 * z + k)) lf fn km kf) = A at hD ⊢
  have hS : va_S A s.heap s.heap [] := va_S.rf
  have hl := lv_entry ([.ref (g 0), .int (nI z), .long x]) (n := 5) (Nat.le_of_ble_eq_true rfl)
  rw [lg_entry_eq]
  generalize (lg_sl ([.ref (g 0), .int (nI z), .long x]) ++ List.replicate (5 - (lg_sl ([.ref (g 0), .int (nI z), .long x])).length) Slot.unset).toArray = ls at hl ⊢
  have hl : lv_has ls 5 [(0, .ref (g 0)), (1, .int (nI z)), (2, .long x)] := hl
  refine lv_aload_n hx hb d_DeviceSets_reset_0 rfl (lv_at hl 0 rfl) ?_
  refine lv_iload_n hx hb d_DeviceSets_reset_1 rfl (lv_at hl 1 rfl) ?_
  refine va_csq (va_Run.run (sy_runV (As := [.int (nI z)]) (rest := []) (b := (g 0)) ⟨hx, hb, hml, hown, ht⟩ cl_DeviceSets_40 (c_DeviceSets_deviceAt l G g nd ns nb (nI z) (by omega)) hK (hP.sub [0, 1, 2] rfl) (va_recv hK.1 hP (ci := 0) (q0 := 0) rfl rfl) rfl nm_DeviceSets_deviceAt rfl rfl ⟨Nat.le_of_ble_eq_true rfl, Nat.le_of_ble_eq_true rfl⟩ hl.1 (Nat.le_of_ble_eq_true rfl) d_DeviceSets_reset_2 ⟨Nat.zero_le _, Nat.zero_le _⟩)) (fun r_1 hr_1 => ?_)
  have hq9 : mo_ok nd (nI z) = true := by simp [mo_ok, nI_pos' (show z < 2 ^ 31 by omega), nI_lt hz (show nd < 2 ^ 31 by omega)]
  have hr_1 : r_1 = some (g (20 + 4 * z)) := by rw [hr_1, xa_at, if_pos hq9, nI_clamp (show z < 2 ^ 31 by omega)]
  subst hr_1
  refine sy_tr (y := .ref (g (20 + 4 * z))) rfl ?_
  refine lv_astore (lv' := [(4, .ref (g (20 + 4 * z))), (0, .ref (g 0)), (1, .int (nI z)), (2, .long x)]) hx hb d_DeviceSets_reset_5 hl (by decide) rfl (fun ls hl => ?_)
  refine lv_aload hx hb d_DeviceSets_reset_7 (lv_at hl 0 rfl) ?_
  refine lv_ifnull hx hb d_DeviceSets_reset_9 ?_
  refine lv_lload_n hx hb d_DeviceSets_reset_12 rfl (lv_at hl 3 rfl) ?_
  refine vp_callSi (va_Run.run (sy_runS (As := [.long x]) (rest := []) ⟨hx, hb, hml, hown, ht⟩ cl_DeviceSets_44 (c_DeviceSets_isNumber l G x) hK trivial rfl nm_DeviceSets_isNumber rfl rfl ⟨Nat.le_of_ble_eq_true rfl, Nat.le_of_ble_eq_true rfl⟩ hl.1 (Nat.le_of_ble_eq_true rfl) d_DeviceSets_reset_13 ⟨Nat.zero_le _, Nat.zero_le _⟩)) (fun r_2 hr_2 => ?_)
  subst hr_2
  refine lv_if_eq (tgt := 29) hx hb d_DeviceSets_reset_16 (by decide) (fun c_3 => ?_) (fun c_3 => ?_)
  · have c_3 : (ok_num x) = false := bI_f c_3
    refine lv_iconst (v := 0) hx hb d_DeviceSets_reset_29 (by decide) ?_
    exact W.zret (v := (0 : Int32)) hx hb hr (rfl) (fun t ht hW => ⟨⟨(0 : Int32), (lf, fn), rfl, by constructor <;> simp [xm_reset, bI, c_3], by show va_P _ _ _ t.heap; rw [ht]; exact hP⟩, hS.F ht⟩) hS.2.2 d_DeviceSets_reset_30
  · have c_3 : (ok_num x) = true := bI_t c_3
    refine lv_aload hx hb d_DeviceSets_reset_19 (lv_at hl 0 rfl) ?_
    refine va_getN (D := G.1) (ci := 1) (v := .int (nI lf)) (C := R_Device) (T := F_Device) (N := 3) hx hb ht i_Device hown hK.1 hP 3 rfl rfl 1 (by decide) (va_Nw.use rfl (hK.2 _ m_162)) (fun _ h9 => h9) rfl d_DeviceSets_reset_21 ?_
    refine lv_bipush (v := 99) hx hb d_DeviceSets_reset_24 (by decide) ?_
    refine lv_icmp_lt (tgt := 31) hx hb d_DeviceSets_reset_26 (by decide) (fun c_4 => ?_) (fun c_4 => ?_)
    · have c_4 : lf < 99 := (nI_ltI (a := lf) (b := 99) (by omega) (by omega)).mp c_4
      have c_4n : ¬ 99 ≤ lf := by omega
      refine lv_aload hx hb d_DeviceSets_reset_31 (lv_at hl 0 rfl) ?_
      refine lv_dup hx hb d_DeviceSets_reset_33 rfl ?_
      refine va_getN (D := G.1) (ci := 1) (v := .int (nI lf)) (C := R_Device) (T := F_Device) (N := 3) hx hb ht i_Device hown hK.1 hP 3 rfl rfl 1 (by decide) (va_Nw.use rfl (hK.2 _ m_162)) (fun _ h9 => h9) rfl d_DeviceSets_reset_34 ?_
      refine lv_iconst (v := 1) hx hb d_DeviceSets_reset_37 (by decide) ?_
      refine lv_iadd hx hb d_DeviceSets_reset_38 ?_
      refine sy_ti (y := nI (lf + 1)) (nI_add lf 1) ?_
      refine va_putN (D := G.1) (ci := 1) (v := .int (nI (lf + 1))) (ty := .int) (C := R_Device) (T := F_Device) (N := 3) hx hb ht i_Device t_Device t_Device_ok n_Device hown hK.1 hP hD hS 3 rfl rfl 1 (by decide) (va_Nw.use rfl (hK.2 _ m_162)) (fun _ h9 => h9) rfl (by decide +kernel) rfl rfl (Nat.le_of_ble_eq_true rfl) d_DeviceSets_reset_39 (fun H locs hP hD hS => ?_)
      have hP : va_P G.1 classes (xw G.2 g nd ns nb ++ dq G.2 (g (20 + 4 * z)) (g (21 + 4 * z)) (fun k => g (22 + 4 * z + k)) (lf + 1) fn km kf) H := hP
      have hD : va_D A (xw G.2 g nd ns nb ++ dq G.2 (g (20 + 4 * z)) (g (21 + 4 * z)) (fun k => g (22 + 4 * z + k)) (lf + 1) fn km kf) := hD
      refine lv_aload hx hb d_DeviceSets_reset_42 (lv_at hl 0 rfl) ?_
      refine lv_lload_n hx hb d_DeviceSets_reset_44 rfl (lv_at hl 3 rfl) ?_
      refine va_putN (D := G.1) (ci := 1) (v := .long x) (ty := .long) (C := R_Device) (T := F_Device) (N := 3) hx hb ht i_Device t_Device t_Device_ok n_Device hown hK.1 hP hD hS 3 rfl rfl 2 (by decide) (va_Nw.use rfl (hK.2 _ m_163)) (fun _ h9 => h9) rfl (by decide +kernel) rfl rfl (Nat.le_of_ble_eq_true rfl) d_DeviceSets_reset_45 (fun H locs hP hD hS => ?_)
      have hP : va_P G.1 classes (xw G.2 g nd ns nb ++ dq G.2 (g (20 + 4 * z)) (g (21 + 4 * z)) (fun k => g (22 + 4 * z + k)) (lf + 1) x km kf) H := hP
      have hD : va_D A (xw G.2 g nd ns nb ++ dq G.2 (g (20 + 4 * z)) (g (21 + 4 * z)) (fun k => g (22 + 4 * z + k)) (lf + 1) x km kf) := hD
      refine lv_iconst (v := 1) hx hb d_DeviceSets_reset_48 (by decide) ?_
      exact W.zret (v := (1 : Int32)) hx hb hr (rfl) (fun t ht hW => ⟨⟨(1 : Int32), (lf + 1, x), rfl, by constructor <;> simp [xm_reset, bI, c_3, c_4, c_4n], by show va_P _ _ _ t.heap; rw [ht]; exact hP⟩, hS.F ht⟩) hS.2.2 d_DeviceSets_reset_49
    · have c_4 : ¬ lf < 99 := fun h9 => c_4 ((nI_ltI (a := lf) (b := 99) (by omega) (by omega)).mpr h9)
      have c_4n : 99 ≤ lf := by omega
      refine lv_iconst (v := 0) hx hb d_DeviceSets_reset_29 (by decide) ?_
      exact W.zret (v := (0 : Int32)) hx hb hr (rfl) (fun t ht hW => ⟨⟨(0 : Int32), (lf, fn), rfl, by constructor <;> simp [xm_reset, bI, c_3, c_4, c_4n], by show va_P _ _ _ t.heap; rw [ht]; exact hP⟩, hS.F ht⟩) hS.2.2 d_DeviceSets_reset_30
