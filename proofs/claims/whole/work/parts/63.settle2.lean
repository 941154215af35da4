set_option maxHeartbeats 4000000 in
set_option maxRecDepth 100000 in
theorem c_DeviceSets_settle (l : Launch) (G : sy_G) (g : Nat → Nat) (nd : Nat) (ns : Nat) (nb : Nat) (nT : Nat) (fI : Nat → Nat → Int32) (fL : Nat → Nat → Int64) (z : Nat) (so : Int32) (sf : Nat → Int64) (sv : Nat → Int64) (d : Int32) (kd : Int32) (wh : Int32) (hz : z < ns) (hs : ns ≤ 6) (hn : nT ≤ 60) : Met l y_DeviceSets_settle (sy_w y_DeviceSets_settle b_DeviceSets_settle 8 (some .int)) { frames := 5, cells := 0, slots := 0, locals := 120 } (va_Pc [.ref (g 0), .int (nI z), .int d, .int kd, .int wh] (sy_KP G (fun H => va_P G.1 classes (xw G.2 g nd ns nb ++ (tw G.2 (g 3) (fun k => g (4 + k)) nT fI fL ++ sq (g (40 + 3 * z)) (g (41 + 3 * z)) (g (42 + 3 * z)) so sf sv)) H ∧ va_D (fun _ => True) (xw G.2 g nd ns nb ++ (tw G.2 (g 3) (fun k => g (4 + k)) nT fI fL ++ sq (g (40 + 3 * z)) (g (41 + 3 * z)) (g (42 + 3 * z)) so sf sv))))) (va_Qi (S := (Nat → Int64)) (fun r u => r = (xm_settle nT fI fL sf d kd wh).1 ∧ u = (xm_settle nT fI fL sf d kd wh).2) (fun u t => va_P G.1 classes (xw G.2 g nd ns nb ++ (tw G.2 (g 3) (fun k => g (4 + k)) nT fI fL ++ sq (g (40 + 3 * z)) (g (41 + 3 * z)) (g (42 + 3 * z)) so u sv)) t.heap) (sy_A (xw G.2 g nd ns nb ++ (tw G.2 (g 3) (fun k => g (4 + k)) nT fI fL ++ sq (g (40 + 3 * z)) (g (41 + 3 * z)) (g (42 + 3 * z)) so sf sv)))) 0 0 (sy_A (xw G.2 g nd ns nb ++ (tw G.2 (g 3) (fun k => g (4 + k)) nT fI fL ++ sq (g (40 + 3 * z)) (g (41 + 3 * z)) (g (42 + 3 * z)) so sf sv))) := by
  refine Met.ofW (cc := b_DeviceSets_settle) (maxL := 8) (ret := (some .int)) (by decide) rfl ?_
  intro p e s m args below meth c s₁ B hml hv
  obtain ⟨rfl, ⟨hP, hD0⟩, hK⟩ := hv
  have hx := B.exec
  have hb := B.bytes
  have hr := B.returns
  have hts := atoms_spec (ws := sy_w y_DeviceSets_settle b_DeviceSets_settle 8 (some .int)) B.pre
  have ht : ∀ wd ∈ sy_T, wd.before ([.ref (g 0), .int (nI z), .int d, .int kd, .int wh] : List Value).toArray s = true := fun wd h => hts wd (List.mem_cons_of_mem _ h)
  have hown : s.vm.findClass R_DeviceSets = some m.cls := findClass_of_methodNamed B.named
  have hlocks := B.notSynchronized
  have hD := sy_self hD0
  generalize hAe : sy_A (xw G.2 g nd ns nb ++ (tw G.2 (g 3) (fun k => g (4 + k)) nT fI fL ++ sq (g (40 + 3 * z)) (g (41 + 3 * z)) (g (42 + 3 * z)) so sf sv)) = A at hD ⊢
  have hS : va_S A s.heap s.heap [] := va_S.rf
  have hl := lv_entry ([.ref (g 0), .int (nI z), .int d, .int kd, .int wh]) (n := 8) (Nat.le_of_ble_eq_true rfl)
  rw [lg_entry_eq]
  generalize (lg_sl ([.ref (g 0), .int (nI z), .int d, .int kd, .int wh]) ++ List.replicate (8 - (lg_sl ([.ref (g 0), .int (nI z), .int d, .int kd, .int wh])).length) Slot.unset).toArray = ls at hl ⊢
  have hl : lv_has ls 8 [(0, .ref (g 0)), (1, .int (nI z)), (2, .int d), (3, .int kd), (4, .int wh)] := hl
  refine lv_aload_n hx hb d_DeviceSets_settle_0 rfl (lv_at hl 0 rfl) ?_
  refine lv_iload_n hx hb d_DeviceSets_settle_1 rfl (lv_at hl 1 rfl) ?_
  refine va_csq (va_Run.run (sy_runV (As := [.int (nI z)]) (rest := []) (b := (g 0)) ⟨hx, hb, hml, hown, ht⟩ cl_DeviceSets_80 (c_DeviceSets_setAt l G g nd ns nb (nI z) (by omega)) hK (hP.sub [0, 1, 2] rfl) (va_recv hK.1 hP (ci := 0) (q0 := 0) rfl rfl) rfl nm_DeviceSets_setAt rfl rfl ⟨Nat.le_of_ble_eq_true rfl, Nat.le_of_ble_eq_true rfl⟩ hl.1 (Nat.le_of_ble_eq_true rfl) d_DeviceSets_settle_2 ⟨Nat.zero_le _, Nat.zero_le _⟩)) (fun r_1 hr_1 => ?_)
  have hq9 : mo_ok ns (nI z) = true := by simp [mo_ok, nI_pos' (show z < 2 ^ 31 by omega), nI_lt hz (show ns < 2 ^ 31 by omega)]
  have hr_1 : r_1 = some (g (40 + 3 * z)) := by rw [hr_1, xa_at, if_pos hq9, nI_clamp (show z < 2 ^ 31 by omega)]
  subst hr_1
  refine sy_tr (y := .ref (g (40 + 3 * z))) rfl ?_
  refine lv_astore (lv' := [(5, .ref (g (40 + 3 * z))), (0, .ref (g 0)), (1, .int (nI z)), (2, .int d), (3, .int kd), (4, .int wh)]) hx hb d_DeviceSets_settle_5 hl (by decide) rfl (fun ls hl => ?_)
  refine lv_aload hx hb d_DeviceSets_settle_7 (lv_at hl 0 rfl) ?_
  refine lv_ifnonnull (tgt := 14) hx hb d_DeviceSets_settle_9 (by decide) ?_
  refine lv_aload_n hx hb d_DeviceSets_settle_14 rfl (lv_at hl 1 rfl) ?_
  refine va_get (D := G.1) (ci := 0) (v := .ref (g 3)) (C := R_DeviceSets) (T := F_DeviceSets) (N := 7) hx hb ht i_DeviceSets hown hK.1 hP 0 rfl rfl 2 (by decide) (ht _ m_115) (fun _ h9 => h9) rfl d_DeviceSets_settle_15 ?_
  refine lv_aload_n hx hb d_DeviceSets_settle_18 rfl (lv_at hl 1 rfl) ?_
  refine lv_aload hx hb d_DeviceSets_settle_19 (lv_at hl 0 rfl) ?_
  refine va_getN (D := G.1) (ci := 4) (v := .ref (g (41 + 3 * z))) (C := R_ToldSet) (T := F_ToldSet) (N := 3) hx hb ht i_ToldSet hown hK.1 hP 11 rfl rfl 0 (by decide) (va_Nw.use rfl (hK.2 _ m_248)) (fun _ h9 => h9) rfl d_DeviceSets_settle_21 ?_
  refine vp_callSl (va_Run.run (sy_runV (As := [.ref (g (41 + 3 * z))]) (rest := [.ref (g 3)]) (b := (g 0)) ⟨hx, hb, hml, hown, ht⟩ cl_DeviceSets_92 (c_DeviceSets_conflictsIn l G g nd ns nb nT fI fL (g (41 + 3 * z)) sf (by omega)) hK ⟨(hP.sub [0, 1, 2] rfl), (hP.sub [3, 4, 5, 6, 7, 8, 9, 10] rfl), (hP.sub [12] rfl)⟩ (va_recv hK.1 hP (ci := 0) (q0 := 0) rfl rfl) rfl nm_DeviceSets_conflictsIn rfl rfl ⟨Nat.le_of_ble_eq_true rfl, Nat.le_of_ble_eq_true rfl⟩ hl.1 (Nat.le_of_ble_eq_true rfl) d_DeviceSets_settle_24 ⟨Nat.zero_le _, Nat.zero_le _⟩)) (fun r_2 hr_2 => ?_)
  subst hr_2
  refine lv_aload_n hx hb d_DeviceSets_settle_27 rfl (lv_at hl 1 rfl) ?_
  refine va_get (D := G.1) (ci := 0) (v := .ref (g 3)) (C := R_DeviceSets) (T := F_DeviceSets) (N := 7) hx hb ht i_DeviceSets hown hK.1 hP 0 rfl rfl 2 (by decide) (ht _ m_115) (fun _ h9 => h9) rfl d_DeviceSets_settle_28 ?_
  refine lv_iload_n hx hb d_DeviceSets_settle_31 rfl (lv_at hl 3 rfl) ?_
  refine lv_iload_n hx hb d_DeviceSets_settle_32 rfl (lv_at hl 4 rfl) ?_
  refine vp_callSl (va_Run.run (sy_runV (As := [.int d, .int kd]) (rest := [.long (xl_conf fI fL nT sf), .ref (g 3)]) (b := (g 3)) ⟨hx, hb, hml, hown, ht⟩ cl_DeviceSets_151 (c_Tellings_ofKind l G (g 3) (fun k => g (4 + k)) nT fI fL d kd (by omega)) hK (hP.sub [3, 4, 5, 6, 7, 8, 9, 10] rfl) (va_recv hK.1 hP (ci := 5) (q0 := 3) rfl rfl) rfl nm_Tellings_ofKind rfl rfl ⟨Nat.le_of_ble_eq_true rfl, Nat.le_of_ble_eq_true rfl⟩ hl.1 (Nat.le_of_ble_eq_true rfl) d_DeviceSets_settle_33 ⟨Nat.zero_le _, Nat.zero_le _⟩)) (fun r_3 hr_3 => ?_)
  subst hr_3
  refine lv_land hx hb d_DeviceSets_settle_36 ?_
  refine vp_callSi (va_Run.run (sy_runV (As := [.long ((xl_conf fI fL nT sf) &&& (tl_ofK fI nT d kd))]) (rest := []) (b := (g 3)) ⟨hx, hb, hml, hown, ht⟩ cl_DeviceSets_155 (c_Tellings_first l G (g 3) (fun k => g (4 + k)) nT fI fL ((xl_conf fI fL nT sf) &&& (tl_ofK fI nT d kd)) (by omega)) hK (hP.sub [3, 4, 5, 6, 7, 8, 9, 10] rfl) (va_recv hK.1 hP (ci := 5) (q0 := 3) rfl rfl) rfl nm_Tellings_first rfl rfl ⟨Nat.le_of_ble_eq_true rfl, Nat.le_of_ble_eq_true rfl⟩ hl.1 (Nat.le_of_ble_eq_true rfl) d_DeviceSets_settle_37 ⟨Nat.zero_le _, Nat.zero_le _⟩)) (fun r_4 hr_4 => ?_)
  obtain ⟨o_5, ho_5, hr_4⟩ := sy_opt hr_4
  subst hr_4
  refine lv_istore (lv' := [(6, .int (oI o_5)), (5, .ref (g (40 + 3 * z))), (0, .ref (g 0)), (1, .int (nI z)), (2, .int d), (3, .int kd), (4, .int wh)]) hx hb d_DeviceSets_settle_40 hl (by decide) rfl (fun ls hl => ?_)
  refine lv_iload hx hb d_DeviceSets_settle_42 (lv_at hl 0 rfl) ?_
  refine lv_iconst (v := (-1)) hx hb d_DeviceSets_settle_44 (by decide) ?_
  rcases o_5 with _ | j_7
  · have hl : lv_has ls 8 [(6, .int (-1)), (5, .ref (g (40 + 3 * z))), (0, .ref (g 0)), (1, .int (nI z)), (2, .int d), (3, .int kd), (4, .int wh)] := hl
    refine lv_icmp_ne (tgt := 50) hx hb d_DeviceSets_settle_45 (by decide) (fun c_8 => absurd c_8 (by decide)) (fun c_8 => ?_)
    refine lv_iconst (v := (-1)) hx hb d_DeviceSets_settle_48 (by decide) ?_
    exact W.iret (v := (-1 : Int32)) hx hb hr (fun t ht hW => ⟨⟨(-1 : Int32), sf, rfl, by constructor <;> simp [xm_settle, xm_s1, xm_s2, ← ho_5, c_8], by show va_P _ _ _ t.heap; rw [ht]; exact hP⟩, hS.F ht⟩) hS.2.2 d_DeviceSets_settle_49
  · have hl : lv_has ls 8 [(6, .int (nI j_7)), (5, .ref (g (40 + 3 * z))), (0, .ref (g 0)), (1, .int (nI z)), (2, .int d), (3, .int kd), (4, .int wh)] := hl
    have hj_7 : j_7 < 60 := by have := nn_fm_lt ho_5.symm; omega
    refine lv_icmp_ne (tgt := 50) hx hb d_DeviceSets_settle_45 (by decide) (fun c_9 => ?_) (fun c_9 => absurd c_9 (oI_ne (by omega)))
    refine lv_aload_n hx hb d_DeviceSets_settle_50 rfl (lv_at hl 2 rfl) ?_
    refine va_get (D := G.1) (ci := 0) (v := .ref (g 3)) (C := R_DeviceSets) (T := F_DeviceSets) (N := 7) hx hb ht i_DeviceSets hown hK.1 hP 0 rfl rfl 2 (by decide) (ht _ m_115) (fun _ h9 => h9) rfl d_DeviceSets_settle_51 ?_
    refine lv_aload_n hx hb d_DeviceSets_settle_54 rfl (lv_at hl 2 rfl) ?_
    refine va_get (D := G.1) (ci := 0) (v := .ref (g 3)) (C := R_DeviceSets) (T := F_DeviceSets) (N := 7) hx hb ht i_DeviceSets hown hK.1 hP 0 rfl rfl 2 (by decide) (ht _ m_115) (fun _ h9 => h9) rfl d_DeviceSets_settle_55 ?_
    refine lv_iload hx hb d_DeviceSets_settle_58 (lv_at hl 0 rfl) ?_
    refine lv_aload_n hx hb d_DeviceSets_settle_60 rfl (lv_at hl 2 rfl) ?_
    refine lv_aload hx hb d_DeviceSets_settle_61 (lv_at hl 1 rfl) ?_
    refine va_getN (D := G.1) (ci := 4) (v := .ref (g (41 + 3 * z))) (C := R_ToldSet) (T := F_ToldSet) (N := 3) hx hb ht i_ToldSet hown hK.1 hP 11 rfl rfl 0 (by decide) (va_Nw.use rfl (hK.2 _ m_248)) (fun _ h9 => h9) rfl d_DeviceSets_settle_63 ?_
    refine vp_callSl (va_Run.run (sy_runV (As := [.ref (g (41 + 3 * z))]) (rest := [.int (nI j_7), .ref (g 3), .ref (g 3)]) (b := (g 0)) ⟨hx, hb, hml, hown, ht⟩ cl_DeviceSets_158 (c_DeviceSets_liveIn l G g nd ns nb nT fI fL (g (41 + 3 * z)) sf (by omega)) hK ⟨(hP.sub [0, 1, 2] rfl), (hP.sub [3, 4, 5, 6, 7, 8, 9, 10] rfl), (hP.sub [12] rfl)⟩ (va_recv hK.1 hP (ci := 0) (q0 := 0) rfl rfl) rfl nm_DeviceSets_liveIn rfl rfl ⟨Nat.le_of_ble_eq_true rfl, Nat.le_of_ble_eq_true rfl⟩ hl.1 (Nat.le_of_ble_eq_true rfl) d_DeviceSets_settle_66 ⟨Nat.zero_le _, Nat.zero_le _⟩)) (fun r_10 hr_10 => ?_)
    subst hr_10
    refine vp_callSl (va_Run.run (sy_runV (As := [.int (nI j_7), .long (xl_live fL nT sf)]) (rest := [.ref (g 3)]) (b := (g 3)) ⟨hx, hb, hml, hown, ht⟩ cl_DeviceSets_161 (c_Tellings_ofKeyOf l G (g 3) (fun k => g (4 + k)) nT fI fL j_7 (xl_live fL nT sf) (by omega) (by omega)) hK (hP.sub [3, 4, 5, 6, 7, 8, 9, 10] rfl) (va_recv hK.1 hP (ci := 5) (q0 := 3) rfl rfl) rfl nm_Tellings_ofKeyOf rfl rfl ⟨Nat.le_of_ble_eq_true rfl, Nat.le_of_ble_eq_true rfl⟩ hl.1 (Nat.le_of_ble_eq_true rfl) d_DeviceSets_settle_69 ⟨Nat.zero_le _, Nat.zero_le _⟩)) (fun r_11 hr_11 => ?_)
    subst hr_11
    refine lv_iload hx hb d_DeviceSets_settle_72 (lv_at hl 6 rfl) ?_
    refine vp_callSi (va_Run.run (sy_runV (As := [.long (tl_key fI nT j_7 (xl_live fL nT sf)), .int wh]) (rest := []) (b := (g 3)) ⟨hx, hb, hml, hown, ht⟩ cl_DeviceSets_144 (c_Tellings_inPlace l G (g 3) (fun k => g (4 + k)) nT fI fL (tl_key fI nT j_7 (xl_live fL nT sf)) wh (by omega)) hK (hP.sub [3, 4, 5, 6, 7, 8, 9, 10] rfl) (va_recv hK.1 hP (ci := 5) (q0 := 3) rfl rfl) rfl nm_Tellings_inPlace rfl rfl ⟨Nat.le_of_ble_eq_true rfl, Nat.le_of_ble_eq_true rfl⟩ hl.1 (Nat.le_of_ble_eq_true rfl) d_DeviceSets_settle_74 ⟨Nat.zero_le _, Nat.zero_le _⟩)) (fun r_12 hr_12 => ?_)
    obtain ⟨o_13, ho_13, hr_12⟩ := sy_opt hr_12
    subst hr_12
    refine lv_istore (lv' := [(7, .int (oI o_13)), (6, .int (nI j_7)), (5, .ref (g (40 + 3 * z))), (0, .ref (g 0)), (1, .int (nI z)), (2, .int d), (3, .int kd), (4, .int wh)]) hx hb d_DeviceSets_settle_77 hl (by decide) rfl (fun ls hl => ?_)
    refine lv_iload hx hb d_DeviceSets_settle_79 (lv_at hl 0 rfl) ?_
    refine lv_iconst (v := (-1)) hx hb d_DeviceSets_settle_81 (by decide) ?_
    rcases o_13 with _ | j_15
    · have hl : lv_has ls 8 [(7, .int (-1)), (6, .int (nI j_7)), (5, .ref (g (40 + 3 * z))), (0, .ref (g 0)), (1, .int (nI z)), (2, .int d), (3, .int kd), (4, .int wh)] := hl
      refine lv_icmp_ne (tgt := 87) hx hb d_DeviceSets_settle_82 (by decide) (fun c_16 => absurd c_16 (by decide)) (fun c_16 => ?_)
      refine lv_iconst (v := (-1)) hx hb d_DeviceSets_settle_85 (by decide) ?_
      exact W.iret (v := (-1 : Int32)) hx hb hr (fun t ht hW => ⟨⟨(-1 : Int32), sf, rfl, by constructor <;> simp [xm_settle, xm_s1, xm_s2, ← ho_5, c_9, ← ho_13, c_16], by show va_P _ _ _ t.heap; rw [ht]; exact hP⟩, hS.F ht⟩) hS.2.2 d_DeviceSets_settle_86
    · have hl : lv_has ls 8 [(7, .int (nI j_15)), (6, .int (nI j_7)), (5, .ref (g (40 + 3 * z))), (0, .ref (g 0)), (1, .int (nI z)), (2, .int d), (3, .int kd), (4, .int wh)] := hl
      have hj_15 : j_15 < 60 := by have := (nn_ff_lt ho_13.symm).1; omega
      refine lv_icmp_ne (tgt := 87) hx hb d_DeviceSets_settle_82 (by decide) (fun c_17 => ?_) (fun c_17 => absurd c_17 (oI_ne (by omega)))
      refine lv_aload hx hb d_DeviceSets_settle_87 (lv_at hl 2 rfl) ?_
      refine va_getN (D := G.1) (ci := 4) (v := .ref (g (41 + 3 * z))) (C := R_ToldSet) (T := F_ToldSet) (N := 3) hx hb ht i_ToldSet hown hK.1 hP 11 rfl rfl 0 (by decide) (va_Nw.use rfl (hK.2 _ m_248)) (fun _ h9 => h9) rfl d_DeviceSets_settle_89 ?_
      refine lv_dup hx hb d_DeviceSets_settle_92 rfl ?_
      refine va_getN (D := G.1) (ci := 3) (v := .long (sf 2)) (C := R_Held) (T := F_Held) (N := 4) hx hb ht i_Held hown hK.1 hP 12 rfl rfl 2 (by decide) (va_Nw.use rfl (hK.2 _ m_235)) (fun _ h9 => h9) rfl d_DeviceSets_settle_93 ?_
      refine lv_iload hx hb d_DeviceSets_settle_96 (lv_at hl 0 rfl) ?_
      refine vp_callSl (va_Run.run (sy_runS (As := [.int (nI j_15)]) (rest := [.long (sf 2), .ref (g (41 + 3 * z))]) ⟨hx, hb, hml, hown, ht⟩ cl_DeviceSets_110 (c_DeviceSets_bit l G j_15) hK trivial rfl nm_DeviceSets_bit rfl rfl ⟨Nat.le_of_ble_eq_true rfl, Nat.le_of_ble_eq_true rfl⟩ hl.1 (Nat.le_of_ble_eq_true rfl) d_DeviceSets_settle_98 ⟨Nat.zero_le _, Nat.zero_le _⟩)) (fun r_18 hr_18 => ?_)
      subst hr_18
      refine lv_lor hx hb d_DeviceSets_settle_101 ?_
      refine va_putN (D := G.1) (ci := 3) (v := .long ((sf 2) ||| (bs_b j_15))) (ty := .long) (C := R_Held) (T := F_Held) (N := 4) hx hb ht i_Held t_Held t_Held_ok n_Held hown hK.1 hP hD hS 12 rfl rfl 2 (by decide) (va_Nw.use rfl (hK.2 _ m_235)) (fun _ h9 => h9) rfl (by decide +kernel) rfl rfl (Nat.le_of_ble_eq_true rfl) d_DeviceSets_settle_102 (fun H locs hP hD hS => ?_)
      have hP : va_P G.1 classes (xw G.2 g nd ns nb ++ (tw G.2 (g 3) (fun k => g (4 + k)) nT fI fL ++ sq (g (40 + 3 * z)) (g (41 + 3 * z)) (g (42 + 3 * z)) so (va_up sf 2 ((sf 2) ||| (bs_b j_15))) sv)) H := hP
      have hD : va_D A (xw G.2 g nd ns nb ++ (tw G.2 (g 3) (fun k => g (4 + k)) nT fI fL ++ sq (g (40 + 3 * z)) (g (41 + 3 * z)) (g (42 + 3 * z)) so (va_up sf 2 ((sf 2) ||| (bs_b j_15))) sv)) := hD
      refine lv_aload_n hx hb d_DeviceSets_settle_105 rfl (lv_at hl 3 rfl) ?_
      refine lv_aload hx hb d_DeviceSets_settle_106 (lv_at hl 2 rfl) ?_
      refine va_getN (D := G.1) (ci := 4) (v := .ref (g (41 + 3 * z))) (C := R_ToldSet) (T := F_ToldSet) (N := 3) hx hb ht i_ToldSet hown hK.1 hP 11 rfl rfl 0 (by decide) (va_Nw.use rfl (hK.2 _ m_248)) (fun _ h9 => h9) rfl d_DeviceSets_settle_108 ?_
      refine vp_callSl (va_Run.run (sy_runV (As := [.ref (g (41 + 3 * z))]) (rest := []) (b := (g 0)) ⟨hx, hb, hml, hown, ht⟩ cl_DeviceSets_92 (c_DeviceSets_conflictsIn l G g nd ns nb nT fI fL (g (41 + 3 * z)) (va_up sf 2 ((sf 2) ||| (bs_b j_15))) (by omega)) hK ⟨(hP.sub [0, 1, 2] rfl), (hP.sub [3, 4, 5, 6, 7, 8, 9, 10] rfl), (hP.sub [12] rfl)⟩ (va_recv hK.1 hP (ci := 0) (q0 := 0) rfl rfl) rfl nm_DeviceSets_conflictsIn rfl rfl ⟨Nat.le_of_ble_eq_true rfl, Nat.le_of_ble_eq_true rfl⟩ hl.1 (Nat.le_of_ble_eq_true rfl) d_DeviceSets_settle_111 ⟨Nat.zero_le _, Nat.zero_le _⟩)) (fun r_19 hr_19 => ?_)
      subst hr_19
      refine vp_callSi (va_Run.run (sy_runS (As := [.long (xl_conf fI fL nT (va_up sf 2 ((sf 2) ||| (bs_b j_15))))]) (rest := []) ⟨hx, hb, hml, hown, ht⟩ cl_DeviceSets_96 (c_Long_bitCount l G (xl_conf fI fL nT (va_up sf 2 ((sf 2) ||| (bs_b j_15))))) hK trivial rfl nm_Long_bitCount rfl rfl ⟨Nat.le_of_ble_eq_true rfl, Nat.le_of_ble_eq_true rfl⟩ hl.1 (Nat.le_of_ble_eq_true rfl) d_DeviceSets_settle_114 ⟨Nat.zero_le _, Nat.zero_le _⟩)) (fun r_20 hr_20 => ?_)
      subst hr_20
      exact W.iret (v := lb_pc (xl_conf fI fL nT (va_up sf 2 ((sf 2) ||| (bs_b j_15))))) hx hb hr (fun t ht hW => ⟨⟨lb_pc (xl_conf fI fL nT (va_up sf 2 ((sf 2) ||| (bs_b j_15)))), va_up sf 2 ((sf 2) ||| (bs_b j_15)), rfl, by constructor <;> simp [xm_settle, xm_s1, xm_s2, ← ho_5, c_9, ← ho_13, c_17], by show va_P _ _ _ t.heap; rw [ht]; exact hP⟩, hS.F ht⟩) hS.2.2 d_DeviceSets_settle_117
set_option maxHeartbeats 4000000 in
set_option maxRecDepth 100000 in
theorem c_DeviceSets_batch (l : Launch) (G : sy_G) (g : Nat → Nat) (nd : Nat) (ns : Nat) (nb : Nat) (nT : Nat) (fI : Nat → Nat → Int32) (fL : Nat → Nat → Int64) (z : Nat) (so : Int32) (sf : Nat → Int64) (sv : Nat → Int64) (hz : z < ns) (hs : ns ≤ 6) (hb4 : nb < 2147483647) : Met l y_DeviceSets_batch (sy_w y_DeviceSets_batch b_DeviceSets_batch 3 (some .int)) { frames := 1, cells := 0, slots := 0, locals := 21 } (va_Pc [.ref (g 0), .int (nI z)] (sy_KP G (fun H => va_P G.1 classes (xw G.2 g nd ns nb ++ (tw G.2 (g 3) (fun k => g (4 + k)) nT fI fL ++ sq (g (40 + 3 * z)) (g (41 + 3 * z)) (g (42 + 3 * z)) so sf sv)) H ∧ va_D (fun _ => True) (xw G.2 g nd ns nb ++ (tw G.2 (g 3) (fun k => g (4 + k)) nT fI fL ++ sq (g (40 + 3 * z)) (g (41 + 3 * z)) (g (42 + 3 * z)) so sf sv))))) (va_Qi (S := (Int32 × Nat)) (fun r u => r = (xm_batch so nb).1 ∧ u = (xm_batch so nb).2) (fun u t => va_P G.1 classes (xw G.2 g nd ns u.2 ++ (tw G.2 (g 3) (fun k => g (4 + k)) nT fI fL ++ sq (g (40 + 3 * z)) (g (41 + 3 * z)) (g (42 + 3 * z)) u.1 sf sv)) t.heap) (sy_A (xw G.2 g nd ns nb ++ (tw G.2 (g 3) (fun k => g (4 + k)) nT fI fL ++ sq (g (40 + 3 * z)) (g (41 + 3 * z)) (g (42 + 3 * z)) so sf sv)))) 0 0 (sy_A (xw G.2 g nd ns nb ++ (tw G.2 (g 3) (fun k => g (4 + k)) nT fI fL ++ sq (g (40 + 3 * z)) (g (41 + 3 * z)) (g (42 + 3 * z)) so sf sv))) := by
  refine Met.ofW (cc := b_DeviceSets_batch) (maxL := 3) (ret := (some .int)) (by decide) rfl ?_
  intro p e s m args below meth c s₁ B hml hv
  obtain ⟨rfl, ⟨hP, hD0⟩, hK⟩ := hv
  have hx := B.exec
  have hb := B.bytes
  have hr := B.returns
  have hts := atoms_spec (ws := sy_w y_DeviceSets_batch b_DeviceSets_batch 3 (some .int)) B.pre
  have ht : ∀ wd ∈ sy_T, wd.before ([.ref (g 0), .int (nI z)] : List Value).toArray s = true := fun wd h => hts wd (List.mem_cons_of_mem _ h)
  have hown : s.vm.findClass R_DeviceSets = some m.cls := findClass_of_methodNamed B.named
  have hlocks := B.notSynchronized
  have hD := sy_self hD0
  generalize hAe : sy_A (xw G.2 g nd ns nb ++ (tw G.2 (g 3) (fun k => g (4 + k)) nT fI fL ++ sq (g (40 + 3 * z)) (g (41 + 3 * z)) (g (42 + 3 * z)) so sf sv)) = A at hD ⊢
  have hS : va_S A s.heap s.heap [] := va_S.rf
  have hl := lv_entry ([.ref (g 0), .int (nI z)]) (n := 3) (Nat.le_of_ble_eq_true rfl)
  rw [lg_entry_eq]
  generalize (lg_sl ([.ref (g 0), .int (nI z)]) ++ List.replicate (3 - (lg_sl ([.ref (g 0), .int (nI z)])).length) Slot.unset).toArray = ls at hl ⊢
  have hl : lv_has ls 3 [(0, .ref (g 0)), (1, .int (nI z))] := hl
  refine lv_aload_n hx hb d_DeviceSets_batch_0 rfl (lv_at hl 0 rfl) ?_
  refine lv_iload_n hx hb d_DeviceSets_batch_1 rfl (lv_at hl 1 rfl) ?_
  refine va_csq (va_Run.run (sy_runV (As := [.int (nI z)]) (rest := []) (b := (g 0)) ⟨hx, hb, hml, hown, ht⟩ cl_DeviceSets_80 (c_DeviceSets_setAt l G g nd ns nb (nI z) (by omega)) hK (hP.sub [0, 1, 2] rfl) (va_recv hK.1 hP (ci := 0) (q0 := 0) rfl rfl) rfl nm_DeviceSets_setAt rfl rfl ⟨Nat.le_of_ble_eq_true rfl, Nat.le_of_ble_eq_true rfl⟩ hl.1 (Nat.le_of_ble_eq_true rfl) d_DeviceSets_batch_2 ⟨Nat.zero_le _, Nat.zero_le _⟩)) (fun r_1 hr_1 => ?_)
  have hq9 : mo_ok ns (nI z) = true := by simp [mo_ok, nI_pos' (show z < 2 ^ 31 by omega), nI_lt hz (show ns < 2 ^ 31 by omega)]
  have hr_1 : r_1 = some (g (40 + 3 * z)) := by rw [hr_1, xa_at, if_pos hq9, nI_clamp (show z < 2 ^ 31 by omega)]
  subst hr_1
  refine sy_tr (y := .ref (g (40 + 3 * z))) rfl ?_
  refine lv_astore_n (lv' := [(2, .ref (g (40 + 3 * z))), (0, .ref (g 0)), (1, .int (nI z))]) hx hb d_DeviceSets_batch_5 rfl hl (by decide) rfl (fun ls hl => ?_)
  refine lv_aload_n hx hb d_DeviceSets_batch_6 rfl (lv_at hl 0 rfl) ?_
  refine lv_ifnull hx hb d_DeviceSets_batch_7 ?_
  refine lv_aload_n hx hb d_DeviceSets_batch_10 rfl (lv_at hl 0 rfl) ?_
  refine va_getN (D := G.1) (ci := 4) (v := .int so) (C := R_ToldSet) (T := F_ToldSet) (N := 3) hx hb ht i_ToldSet hown hK.1 hP 11 rfl rfl 2 (by decide) (va_Nw.use rfl (hK.2 _ m_251)) (fun _ h9 => h9) rfl d_DeviceSets_batch_11 ?_
  refine lv_iconst (v := (-1)) hx hb d_DeviceSets_batch_14 (by decide) ?_
  refine lv_icmp_eq (tgt := 20) hx hb d_DeviceSets_batch_15 (by decide) (fun c_2 => ?_) (fun c_2 => ?_)
  · refine lv_aload_n hx hb d_DeviceSets_batch_20 rfl (lv_at hl 0 rfl) ?_
    refine lv_aload_n hx hb d_DeviceSets_batch_21 rfl (lv_at hl 1 rfl) ?_
    refine va_get (D := G.1) (ci := 0) (v := .int (nI nb)) (C := R_DeviceSets) (T := F_DeviceSets) (N := 7) hx hb ht i_DeviceSets hown hK.1 hP 0 rfl rfl 6 (by decide) (ht _ m_119) (fun _ h9 => h9) rfl d_DeviceSets_batch_22 ?_
    refine va_putN (D := G.1) (ci := 4) (v := .int (nI nb)) (ty := .int) (C := R_ToldSet) (T := F_ToldSet) (N := 3) hx hb ht i_ToldSet t_ToldSet t_ToldSet_ok n_ToldSet hown hK.1 hP hD hS 11 rfl rfl 2 (by decide) (va_Nw.use rfl (hK.2 _ m_251)) (fun _ h9 => h9) rfl (by decide +kernel) rfl rfl (Nat.le_of_ble_eq_true rfl) d_DeviceSets_batch_25 (fun H locs hP hD hS => ?_)
    have hP : va_P G.1 classes (xw G.2 g nd ns nb ++ (tw G.2 (g 3) (fun k => g (4 + k)) nT fI fL ++ sq (g (40 + 3 * z)) (g (41 + 3 * z)) (g (42 + 3 * z)) (nI nb) sf sv)) H := hP
    have hD : va_D A (xw G.2 g nd ns nb ++ (tw G.2 (g 3) (fun k => g (4 + k)) nT fI fL ++ sq (g (40 + 3 * z)) (g (41 + 3 * z)) (g (42 + 3 * z)) (nI nb) sf sv)) := hD
    refine lv_aload_n hx hb d_DeviceSets_batch_28 rfl (lv_at hl 1 rfl) ?_
    refine lv_dup hx hb d_DeviceSets_batch_29 rfl ?_
    refine va_get (D := G.1) (ci := 0) (v := .int (nI nb)) (C := R_DeviceSets) (T := F_DeviceSets) (N := 7) hx hb ht i_DeviceSets hown hK.1 hP 0 rfl rfl 6 (by decide) (ht _ m_119) (fun _ h9 => h9) rfl d_DeviceSets_batch_30 ?_
    refine lv_iconst (v := 1) hx hb d_DeviceSets_batch_33 (by decide) ?_
    refine lv_iadd hx hb d_DeviceSets_batch_34 ?_
    refine sy_ti (y := nI (nb + 1)) (nI_add nb 1) ?_
    refine va_put (D := G.1) (ci := 0) (v := .int (nI (nb + 1))) (ty := .int) (C := R_DeviceSets) (T := F_DeviceSets) (N := 7) hx hb ht i_DeviceSets t_DeviceSets t_DeviceSets_ok n_DeviceSets hown hK.1 hP hD hS 0 rfl rfl 6 (by decide) (ht _ m_119) (fun _ h9 => h9) rfl (by decide +kernel) rfl rfl (Nat.le_of_ble_eq_true rfl) d_DeviceSets_batch_35 (fun H locs hP hD hS => ?_)
    have hP : va_P G.1 classes (xw G.2 g nd ns (nb + 1) ++ (tw G.2 (g 3) (fun k => g (4 + k)) nT fI fL ++ sq (g (40 + 3 * z)) (g (41 + 3 * z)) (g (42 + 3 * z)) (nI nb) sf sv)) H := hP
    have hD : va_D A (xw G.2 g nd ns (nb + 1) ++ (tw G.2 (g 3) (fun k => g (4 + k)) nT fI fL ++ sq (g (40 + 3 * z)) (g (41 + 3 * z)) (g (42 + 3 * z)) (nI nb) sf sv)) := hD
    refine lv_aload_n hx hb d_DeviceSets_batch_38 rfl (lv_at hl 0 rfl) ?_
    refine va_getN (D := G.1) (ci := 4) (v := .int (nI nb)) (C := R_ToldSet) (T := F_ToldSet) (N := 3) hx hb ht i_ToldSet hown hK.1 hP 11 rfl rfl 2 (by decide) (va_Nw.use rfl (hK.2 _ m_251)) (fun _ h9 => h9) rfl d_DeviceSets_batch_39 ?_
    exact W.iret (v := nI nb) hx hb hr (fun t ht hW => ⟨⟨nI nb, (nI nb, nb + 1), rfl, by constructor <;> simp [xm_batch, c_2], by show va_P _ _ _ t.heap; rw [ht]; exact hP⟩, hS.F ht⟩) hS.2.2 d_DeviceSets_batch_42
  · refine lv_iconst (v := (-1)) hx hb d_DeviceSets_batch_18 (by decide) ?_
    exact W.iret (v := (-1 : Int32)) hx hb hr (fun t ht hW => ⟨⟨(-1 : Int32), (so, nb), rfl, by constructor <;> simp [xm_batch, c_2], by show va_P _ _ _ t.heap; rw [ht]; exact hP⟩, hS.F ht⟩) hS.2.2 d_DeviceSets_batch_19
