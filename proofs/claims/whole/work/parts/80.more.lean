set_option maxHeartbeats 4000000 in
set_option maxRecDepth 100000 in
theorem c_DeviceSets_correct (l : Launch) (G : sy_G) (g : Nat → Nat) (nd : Nat) (ns : Nat) (nb : Nat) (nC : Nat) (gI : Nat → Nat → Int32) (gL : Nat → Nat → Int64) (z : Nat) (so : Int32) (sf : Nat → Int64) (sv : Nat → Int64) (dv : Int32) (kd : Int32) (se : Int64) (v : Int64) (wh : Int64) (hz : z < ns) (hs : ns ≤ 6) (hq : mo_ok nd dv = true) (hd : nd ≤ 4) (hc : nC ≤ 20) : Met l y_DeviceSets_correct (sy_w y_DeviceSets_correct b_DeviceSets_correct 12 (some .boolean)) { frames := 2, cells := 0, slots := 0, locals := 54 } (va_Pc [.ref (g 0), .int (nI z), .int dv, .int kd, .long se, .long v, .long wh] (sy_KP G (fun H => va_P G.1 classes (xw G.2 g nd ns nb ++ (cw G.2 (g 11) (fun k => g (12 + k)) nC gI gL ++ sq (g (40 + 3 * z)) (g (41 + 3 * z)) (g (42 + 3 * z)) so sf sv)) H ∧ va_D (fun _ => True) (xw G.2 g nd ns nb ++ (cw G.2 (g 11) (fun k => g (12 + k)) nC gI gL ++ sq (g (40 + 3 * z)) (g (41 + 3 * z)) (g (42 + 3 * z)) so sf sv))))) (va_Qi (S := ((Nat → Int64) × tl_S)) (fun r u => r = bI (xm_correct nC gI gL sf dv kd se v wh).1 ∧ u = (xm_correct nC gI gL sf dv kd se v wh).2) (fun u t => va_P G.1 classes (xw G.2 g nd ns nb ++ (cw G.2 (g 11) (fun k => g (12 + k)) u.2.1 u.2.2.1 u.2.2.2 ++ sq (g (40 + 3 * z)) (g (41 + 3 * z)) (g (42 + 3 * z)) so u.1 sv)) t.heap) (sy_A (xw G.2 g nd ns nb ++ (cw G.2 (g 11) (fun k => g (12 + k)) nC gI gL ++ sq (g (40 + 3 * z)) (g (41 + 3 * z)) (g (42 + 3 * z)) so sf sv)))) 0 0 (sy_A (xw G.2 g nd ns nb ++ (cw G.2 (g 11) (fun k => g (12 + k)) nC gI gL ++ sq (g (40 + 3 * z)) (g (41 + 3 * z)) (g (42 + 3 * z)) so sf sv))) := by
  refine Met.ofW (cc := b_DeviceSets_correct) (maxL := 12) (ret := (some .boolean)) (by decide) rfl ?_
  intro p e s m args below meth c s₁ B hml hv
  obtain ⟨rfl, ⟨hP, hD0⟩, hK⟩ := hv
  have hx := B.exec
  have hb := B.bytes
  have hr := B.returns
  have hts := atoms_spec (ws := sy_w y_DeviceSets_correct b_DeviceSets_correct 12 (some .boolean)) B.pre
  have ht : ∀ wd ∈ sy_T, wd.before ([.ref (g 0), .int (nI z), .int dv, .int kd, .long se, .long v, .long wh] : List Value).toArray s = true := fun wd h => hts wd (List.mem_cons_of_mem _ h)
  have hown : s.vm.findClass R_DeviceSets = some m.cls := findClass_of_methodNamed B.named
  have hlocks := B.notSynchronized
  have hD := sy_self hD0
  generalize hAe : sy_A (xw G.2 g nd ns nb ++ (cw G.2 (g 11) (fun k => g (12 + k)) nC gI gL ++ sq (g (40 + 3 * z)) (g (41 + 3 * z)) (g (42 + 3 * z)) so sf sv)) = A at hD ⊢
  have hS : va_S A s.heap s.heap [] := va_S.rf
  have hl := lv_entry ([.ref (g 0), .int (nI z), .int dv, .int kd, .long se, .long v, .long wh]) (n := 12) (Nat.le_of_ble_eq_true rfl)
  rw [lg_entry_eq]
  generalize (lg_sl ([.ref (g 0), .int (nI z), .int dv, .int kd, .long se, .long v, .long wh]) ++ List.replicate (12 - (lg_sl ([.ref (g 0), .int (nI z), .int dv, .int kd, .long se, .long v, .long wh])).length) Slot.unset).toArray = ls at hl ⊢
  have hl : lv_has ls 12 [(0, .ref (g 0)), (1, .int (nI z)), (2, .int dv), (3, .int kd), (4, .long se), (6, .long v), (8, .long wh)] := hl
  refine lv_aload_n hx hb d_DeviceSets_correct_0 rfl (lv_at hl 0 rfl) ?_
  refine lv_iload_n hx hb d_DeviceSets_correct_1 rfl (lv_at hl 1 rfl) ?_
  refine va_csq (va_Run.run (sy_runV (As := [.int (nI z)]) (rest := []) (b := (g 0)) ⟨hx, hb, hml, hown, ht⟩ cl_DeviceSets_80 (c_DeviceSets_setAt l G g nd ns nb (nI z) (by omega)) hK (hP.sub [0, 1, 2] rfl) (va_recv hK.1 hP (ci := 0) (q0 := 0) rfl rfl) rfl nm_DeviceSets_setAt rfl rfl ⟨Nat.le_of_ble_eq_true rfl, Nat.le_of_ble_eq_true rfl⟩ hl.1 (Nat.le_of_ble_eq_true rfl) d_DeviceSets_correct_2 ⟨Nat.zero_le _, Nat.zero_le _⟩)) (fun r_1 hr_1 => ?_)
  have hq9 : mo_ok ns (nI z) = true := by simp [mo_ok, nI_pos' (show z < 2 ^ 31 by omega), nI_lt hz (show ns < 2 ^ 31 by omega)]
  have hr_1 : r_1 = some (g (40 + 3 * z)) := by rw [hr_1, xa_at, if_pos hq9, nI_clamp (show z < 2 ^ 31 by omega)]
  subst hr_1
  refine sy_tr (y := .ref (g (40 + 3 * z))) rfl ?_
  refine lv_astore (lv' := [(10, .ref (g (40 + 3 * z))), (0, .ref (g 0)), (1, .int (nI z)), (2, .int dv), (3, .int kd), (4, .long se), (6, .long v), (8, .long wh)]) hx hb d_DeviceSets_correct_5 hl (by decide) rfl (fun ls hl => ?_)
  refine lv_aload hx hb d_DeviceSets_correct_7 (lv_at hl 0 rfl) ?_
  refine lv_ifnull hx hb d_DeviceSets_correct_9 ?_
  refine lv_aload_n hx hb d_DeviceSets_correct_12 rfl (lv_at hl 1 rfl) ?_
  refine lv_iload_n hx hb d_DeviceSets_correct_13 rfl (lv_at hl 3 rfl) ?_
  refine va_csq (va_Run.run (sy_runV (As := [.int dv]) (rest := []) (b := (g 0)) ⟨hx, hb, hml, hown, ht⟩ cl_DeviceSets_40 (c_DeviceSets_deviceAt l G g nd ns nb dv (by omega)) hK (hP.sub [0, 1, 2] rfl) (va_recv hK.1 hP (ci := 0) (q0 := 0) rfl rfl) rfl nm_DeviceSets_deviceAt rfl rfl ⟨Nat.le_of_ble_eq_true rfl, Nat.le_of_ble_eq_true rfl⟩ hl.1 (Nat.le_of_ble_eq_true rfl) d_DeviceSets_correct_14 ⟨Nat.zero_le _, Nat.zero_le _⟩)) (fun r_2 hr_2 => ?_)
  have hr_2 : r_2 = some (g (20 + 4 * dv.toNatClampNeg)) := by rw [hr_2, xa_at, if_pos hq]
  subst hr_2
  refine sy_tr (y := .ref (g (20 + 4 * dv.toNatClampNeg))) rfl ?_
  refine lv_ifnull hx hb d_DeviceSets_correct_17 ?_
  refine lv_iload_n hx hb d_DeviceSets_correct_20 rfl (lv_at hl 4 rfl) ?_
  refine vp_callSi (va_Run.run (sy_runS (As := [.int kd]) (rest := []) ⟨hx, hb, hml, hown, ht⟩ cl_DeviceSets_52 (c_DeviceSets_isKind l G kd) hK trivial rfl nm_DeviceSets_isKind rfl rfl ⟨Nat.le_of_ble_eq_true rfl, Nat.le_of_ble_eq_true rfl⟩ hl.1 (Nat.le_of_ble_eq_true rfl) d_DeviceSets_correct_21 ⟨Nat.zero_le _, Nat.zero_le _⟩)) (fun r_3 hr_3 => ?_)
  subst hr_3
  refine lv_if_ne (tgt := 29) hx hb d_DeviceSets_correct_24 (by decide) (fun c_4 => ?_) (fun c_4 => ?_)
  · have c_4 : (ok_kind kd) = true := bI_t c_4
    refine lv_lload hx hb d_DeviceSets_correct_29 (lv_at hl 5 rfl) ?_
    refine vp_callSi (va_Run.run (sy_runS (As := [.long se]) (rest := []) ⟨hx, hb, hml, hown, ht⟩ cl_DeviceSets_44 (c_DeviceSets_isNumber l G se) hK trivial rfl nm_DeviceSets_isNumber rfl rfl ⟨Nat.le_of_ble_eq_true rfl, Nat.le_of_ble_eq_true rfl⟩ hl.1 (Nat.le_of_ble_eq_true rfl) d_DeviceSets_correct_31 ⟨Nat.zero_le _, Nat.zero_le _⟩)) (fun r_5 hr_5 => ?_)
    subst hr_5
    refine lv_if_eq (tgt := 53) hx hb d_DeviceSets_correct_34 (by decide) (fun c_6 => ?_) (fun c_6 => ?_)
    · have c_6 : (ok_num se) = false := bI_f c_6
      refine lv_iconst (v := 0) hx hb d_DeviceSets_correct_53 (by decide) ?_
      exact W.zret (v := (0 : Int32)) hx hb hr (rfl) (fun t ht hW => ⟨⟨(0 : Int32), (sf, nC, gI, gL), rfl, by constructor <;> simp [xm_correct, xm_cok, xm_co, bI, c_4, c_6], by show va_P _ _ _ t.heap; rw [ht]; exact hP⟩, hS.F ht⟩) hS.2.2 d_DeviceSets_correct_54
    · have c_6 : (ok_num se) = true := bI_t c_6
      refine lv_lload hx hb d_DeviceSets_correct_37 (lv_at hl 6 rfl) ?_
      refine vp_callSi (va_Run.run (sy_runS (As := [.long v]) (rest := []) ⟨hx, hb, hml, hown, ht⟩ cl_DeviceSets_56 (c_DeviceSets_isValue l G v) hK trivial rfl nm_DeviceSets_isValue rfl rfl ⟨Nat.le_of_ble_eq_true rfl, Nat.le_of_ble_eq_true rfl⟩ hl.1 (Nat.le_of_ble_eq_true rfl) d_DeviceSets_correct_39 ⟨Nat.zero_le _, Nat.zero_le _⟩)) (fun r_7 hr_7 => ?_)
      subst hr_7
      refine lv_if_eq (tgt := 53) hx hb d_DeviceSets_correct_42 (by decide) (fun c_8 => ?_) (fun c_8 => ?_)
      · have c_8 : (ok_val v) = false := bI_f c_8
        refine lv_iconst (v := 0) hx hb d_DeviceSets_correct_53 (by decide) ?_
        exact W.zret (v := (0 : Int32)) hx hb hr (rfl) (fun t ht hW => ⟨⟨(0 : Int32), (sf, nC, gI, gL), rfl, by constructor <;> simp [xm_correct, xm_cok, xm_co, bI, c_4, c_6, c_8], by show va_P _ _ _ t.heap; rw [ht]; exact hP⟩, hS.F ht⟩) hS.2.2 d_DeviceSets_correct_54
      · have c_8 : (ok_val v) = true := bI_t c_8
        refine lv_lload hx hb d_DeviceSets_correct_45 (lv_at hl 7 rfl) ?_
        refine vp_callSi (va_Run.run (sy_runS (As := [.long wh]) (rest := []) ⟨hx, hb, hml, hown, ht⟩ cl_DeviceSets_44 (c_DeviceSets_isNumber l G wh) hK trivial rfl nm_DeviceSets_isNumber rfl rfl ⟨Nat.le_of_ble_eq_true rfl, Nat.le_of_ble_eq_true rfl⟩ hl.1 (Nat.le_of_ble_eq_true rfl) d_DeviceSets_correct_47 ⟨Nat.zero_le _, Nat.zero_le _⟩)) (fun r_9 hr_9 => ?_)
        subst hr_9
        refine lv_if_ne (tgt := 55) hx hb d_DeviceSets_correct_50 (by decide) (fun c_10 => ?_) (fun c_10 => ?_)
        · have c_10 : (ok_num wh) = true := bI_t c_10
          refine lv_aload_n hx hb d_DeviceSets_correct_55 rfl (lv_at hl 1 rfl) ?_
          refine va_get (D := G.1) (ci := 0) (v := .ref (g 11)) (C := R_DeviceSets) (T := F_DeviceSets) (N := 7) hx hb ht i_DeviceSets hown hK.1 hP 0 rfl rfl 3 (by decide) (ht _ m_116) (fun _ h9 => h9) rfl d_DeviceSets_correct_56 ?_
          refine lv_iload_n hx hb d_DeviceSets_correct_59 rfl (lv_at hl 3 rfl) ?_
          refine lv_iload_n hx hb d_DeviceSets_correct_60 rfl (lv_at hl 4 rfl) ?_
          refine lv_lload hx hb d_DeviceSets_correct_61 (lv_at hl 5 rfl) ?_
          refine lv_lload hx hb d_DeviceSets_correct_63 (lv_at hl 6 rfl) ?_
          refine lv_lload hx hb d_DeviceSets_correct_65 (lv_at hl 7 rfl) ?_
          have hPc : va_P G.1 classes (cw G.2 (g 11) (fun k => g (12 + k)) nC gI gL) s.heap := hP.sub [3, 4, 5, 6, 7, 8] rfl
          have hDc : va_D A (cw G.2 (g 11) (fun k => g (12 + k)) nC gI gL) := hD.sub [3, 4, 5, 6, 7, 8] (by decide) rfl
          refine va_calli (sy_runV (As := [.int dv, .int kd, .long se, .long v, .long wh]) (rest := []) (b := (g 11)) ⟨hx, hb, hml, hown, ht⟩ cl_DeviceSets_102 (c_Corrections_findOrAdd l G (g 11) (fun k => g (12 + k)) nC gI gL dv kd se v wh hc) hK ⟨hPc, sy_any hDc⟩ (va_recv hK.1 hPc (ci := 6) (q0 := 0) rfl rfl) rfl nm_Corrections_findOrAdd rfl rfl ⟨Nat.le_of_ble_eq_true rfl, Nat.le_of_ble_eq_true rfl⟩ hl.1 (Nat.le_of_ble_eq_true rfl) d_DeviceSets_correct_67 ⟨Nat.zero_le _, Nat.zero_le _⟩) hS (fun q _ h => sy_in hDc h) (fun q h => sy_in hDc h) (fun r_11 u_12 t9 H9 locs ht9 hvm9 hw9 hB9 hz9 hk9 hS => ?_)
          obtain ⟨hr_11, hu_12⟩ := hw9
          subst hu_12
          rw [ht9] at hB9
          have hP : va_P G.1 classes (xw G.2 g nd ns nb ++ (cw G.2 (g 11) (fun k => g (12 + k)) ((co_add nC gI gL dv kd se v wh).2.1) ((co_add nC gI gL dv kd se v wh).2.2.1) ((co_add nC gI gL dv kd se v wh).2.2.2) ++ sq (g (40 + 3 * z)) (g (41 + 3 * z)) (g (42 + 3 * z)) so sf sv)) H9 := sy_mix (wc := cw G.2 (g 11) (fun k => g (12 + k)) nC gI gL) hP hD [3, 4, 5, 6, 7, 8] rfl rfl hk9 hB9
          have hD : va_D A (xw G.2 g nd ns nb ++ (cw G.2 (g 11) (fun k => g (12 + k)) ((co_add nC gI gL dv kd se v wh).2.1) ((co_add nC gI gL dv kd se v wh).2.2.1) ((co_add nC gI gL dv kd se v wh).2.2.2) ++ sq (g (40 + 3 * z)) (g (41 + 3 * z)) (g (42 + 3 * z)) so sf sv)) := sy_Da hD rfl
          generalize H9 = H at hP hS ⊢
          obtain ⟨o_13, ho_13, hr_11⟩ := sy_opt hr_11
          subst hr_11
          refine lv_istore (lv' := [(11, .int (oI o_13)), (10, .ref (g (40 + 3 * z))), (0, .ref (g 0)), (1, .int (nI z)), (2, .int dv), (3, .int kd), (4, .long se), (6, .long v), (8, .long wh)]) hx hb d_DeviceSets_correct_70 hl (by decide) rfl (fun ls hl => ?_)
          refine lv_iload hx hb d_DeviceSets_correct_72 (lv_at hl 0 rfl) ?_
          refine lv_iconst (v := (-1)) hx hb d_DeviceSets_correct_74 (by decide) ?_
          rcases o_13 with _ | j_15
          · have hl : lv_has ls 12 [(11, .int (-1)), (10, .ref (g (40 + 3 * z))), (0, .ref (g 0)), (1, .int (nI z)), (2, .int dv), (3, .int kd), (4, .long se), (6, .long v), (8, .long wh)] := hl
            refine lv_icmp_ne (tgt := 80) hx hb d_DeviceSets_correct_75 (by decide) (fun c_16 => absurd c_16 (by decide)) (fun c_16 => ?_)
            refine lv_iconst (v := 0) hx hb d_DeviceSets_correct_78 (by decide) ?_
            exact W.zret (v := (0 : Int32)) hx hb hr (rfl) (fun t ht hW => ⟨⟨(0 : Int32), (sf, (co_add nC gI gL dv kd se v wh).2.1, (co_add nC gI gL dv kd se v wh).2.2.1, (co_add nC gI gL dv kd se v wh).2.2.2), rfl, by constructor <;> simp [xm_correct, xm_cok, xm_co, bI, c_4, c_6, c_8, c_10, ← ho_13, c_16], by show va_P _ _ _ t.heap; rw [ht]; exact hP⟩, hS.F ht⟩) hS.2.2 d_DeviceSets_correct_79
          · have hl : lv_has ls 12 [(11, .int (nI j_15)), (10, .ref (g (40 + 3 * z))), (0, .ref (g 0)), (1, .int (nI z)), (2, .int dv), (3, .int kd), (4, .long se), (6, .long v), (8, .long wh)] := hl
            have hj_15b : j_15 < 20 := co_add_lt hc ho_13.symm
            refine lv_icmp_ne (tgt := 80) hx hb d_DeviceSets_correct_75 (by decide) (fun c_17 => ?_) (fun c_17 => absurd c_17 (oI_ne (by omega)))
            refine lv_aload hx hb d_DeviceSets_correct_80 (lv_at hl 1 rfl) ?_
            refine va_getN (D := G.1) (ci := 4) (v := .ref (g (41 + 3 * z))) (C := R_ToldSet) (T := F_ToldSet) (N := 3) hx hb ht i_ToldSet hown hK.1 hP 9 rfl rfl 0 (by decide) (va_Nw.use rfl (hK.2 _ m_248)) (fun _ h9 => h9) rfl d_DeviceSets_correct_82 ?_
            refine lv_dup hx hb d_DeviceSets_correct_85 rfl ?_
            refine va_getN (D := G.1) (ci := 3) (v := .long (sf 1)) (C := R_Held) (T := F_Held) (N := 4) hx hb ht i_Held hown hK.1 hP 10 rfl rfl 1 (by decide) (va_Nw.use rfl (hK.2 _ m_233)) (fun _ h9 => h9) rfl d_DeviceSets_correct_86 ?_
            refine lv_iload hx hb d_DeviceSets_correct_89 (lv_at hl 0 rfl) ?_
            refine vp_callSl (va_Run.run (sy_runS (As := [.int (nI j_15)]) (rest := [.long (sf 1), .ref (g (41 + 3 * z))]) ⟨hx, hb, hml, hown, ht⟩ cl_DeviceSets_110 (c_DeviceSets_bit l G j_15) hK trivial rfl nm_DeviceSets_bit rfl rfl ⟨Nat.le_of_ble_eq_true rfl, Nat.le_of_ble_eq_true rfl⟩ hl.1 (Nat.le_of_ble_eq_true rfl) d_DeviceSets_correct_91 ⟨Nat.zero_le _, Nat.zero_le _⟩)) (fun r_18 hr_18 => ?_)
            subst hr_18
            refine lv_lor hx hb d_DeviceSets_correct_94 ?_
            refine va_putN (D := G.1) (ci := 3) (v := .long ((sf 1) ||| (bs_b j_15))) (ty := .long) (C := R_Held) (T := F_Held) (N := 4) hx hb ht i_Held t_Held t_Held_ok n_Held hown hK.1 hP hD hS 10 rfl rfl 1 (by decide) (va_Nw.use rfl (hK.2 _ m_233)) (fun _ h9 => h9) rfl (by decide +kernel) rfl rfl (Nat.le_of_ble_eq_true rfl) d_DeviceSets_correct_95 (fun H locs hP hD hS => ?_)
            have hP : va_P G.1 classes (xw G.2 g nd ns nb ++ (cw G.2 (g 11) (fun k => g (12 + k)) ((co_add nC gI gL dv kd se v wh).2.1) ((co_add nC gI gL dv kd se v wh).2.2.1) ((co_add nC gI gL dv kd se v wh).2.2.2) ++ sq (g (40 + 3 * z)) (g (41 + 3 * z)) (g (42 + 3 * z)) so (va_up sf 1 ((sf 1) ||| (bs_b j_15))) sv)) H := hP
            have hD : va_D A (xw G.2 g nd ns nb ++ (cw G.2 (g 11) (fun k => g (12 + k)) ((co_add nC gI gL dv kd se v wh).2.1) ((co_add nC gI gL dv kd se v wh).2.2.1) ((co_add nC gI gL dv kd se v wh).2.2.2) ++ sq (g (40 + 3 * z)) (g (41 + 3 * z)) (g (42 + 3 * z)) so (va_up sf 1 ((sf 1) ||| (bs_b j_15))) sv)) := hD
            refine lv_iconst (v := 1) hx hb d_DeviceSets_correct_98 (by decide) ?_
            exact W.zret (v := (1 : Int32)) hx hb hr (rfl) (fun t ht hW => ⟨⟨(1 : Int32), (va_up sf 1 ((sf 1) ||| (bs_b j_15)), (co_add nC gI gL dv kd se v wh).2.1, (co_add nC gI gL dv kd se v wh).2.2.1, (co_add nC gI gL dv kd se v wh).2.2.2), rfl, by constructor <;> simp [xm_correct, xm_cok, xm_co, bI, c_4, c_6, c_8, c_10, ← ho_13, c_17], by show va_P _ _ _ t.heap; rw [ht]; exact hP⟩, hS.F ht⟩) hS.2.2 d_DeviceSets_correct_99
        · have c_10 : (ok_num wh) = false := bI_f c_10
          refine lv_iconst (v := 0) hx hb d_DeviceSets_correct_53 (by decide) ?_
          exact W.zret (v := (0 : Int32)) hx hb hr (rfl) (fun t ht hW => ⟨⟨(0 : Int32), (sf, nC, gI, gL), rfl, by constructor <;> simp [xm_correct, xm_cok, xm_co, bI, c_4, c_6, c_8, c_10], by show va_P _ _ _ t.heap; rw [ht]; exact hP⟩, hS.F ht⟩) hS.2.2 d_DeviceSets_correct_54
  · have c_4 : (ok_kind kd) = false := bI_f c_4
    refine lv_iconst (v := 0) hx hb d_DeviceSets_correct_27 (by decide) ?_
    exact W.zret (v := (0 : Int32)) hx hb hr (rfl) (fun t ht hW => ⟨⟨(0 : Int32), (sf, nC, gI, gL), rfl, by constructor <;> simp [xm_correct, xm_cok, xm_co, bI, c_4], by show va_P _ _ _ t.heap; rw [ht]; exact hP⟩, hS.F ht⟩) hS.2.2 d_DeviceSets_correct_28
