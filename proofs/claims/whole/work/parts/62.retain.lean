set_option maxHeartbeats 4000000 in
set_option maxRecDepth 100000 in
theorem c_DeviceSets_retain (l : Launch) (G : sy_G) (g : Nat → Nat) (nd : Nat) (ns : Nat) (nb : Nat) (nT : Nat) (fI : Nat → Nat → Int32) (fL : Nat → Nat → Int64) (z : Nat) (so : Int32) (sf : Nat → Int64) (sv : Nat → Int64) (x : Int64) (hz : z < ns) (hs : ns ≤ 6) (hn : nT ≤ 60) : Met l y_DeviceSets_retain (sy_w y_DeviceSets_retain b_DeviceSets_retain 7 (some .int)) { frames := 4, cells := 0, slots := 0, locals := 90 } (va_Pc [.ref (g 0), .int (nI z), .long x] (sy_KP G (fun H => va_P G.1 classes (xw G.2 g nd ns nb ++ (tw G.2 (g 3) (fun k => g (4 + k)) nT fI fL ++ sq (g (40 + 3 * z)) (g (41 + 3 * z)) (g (42 + 3 * z)) so sf sv)) H ∧ va_D (fun _ => True) (xw G.2 g nd ns nb ++ (tw G.2 (g 3) (fun k => g (4 + k)) nT fI fL ++ sq (g (40 + 3 * z)) (g (41 + 3 * z)) (g (42 + 3 * z)) so sf sv))))) (va_Qi (S := (Nat → Int64)) (fun r u => r = (xm_retain nT fL sf x).1 ∧ u = (xm_retain nT fL sf x).2) (fun u t => va_P G.1 classes (xw G.2 g nd ns nb ++ (tw G.2 (g 3) (fun k => g (4 + k)) nT fI fL ++ sq (g (40 + 3 * z)) (g (41 + 3 * z)) (g (42 + 3 * z)) so u sv)) t.heap) (sy_A (xw G.2 g nd ns nb ++ (tw G.2 (g 3) (fun k => g (4 + k)) nT fI fL ++ sq (g (40 + 3 * z)) (g (41 + 3 * z)) (g (42 + 3 * z)) so sf sv)))) 0 0 (sy_A (xw G.2 g nd ns nb ++ (tw G.2 (g 3) (fun k => g (4 + k)) nT fI fL ++ sq (g (40 + 3 * z)) (g (41 + 3 * z)) (g (42 + 3 * z)) so sf sv))) := by
  refine Met.ofW (cc := b_DeviceSets_retain) (maxL := 7) (ret := (some .int)) (by decide) rfl ?_
  intro p e s m args below meth c s₁ B hml hv
  obtain ⟨rfl, ⟨hP, hD0⟩, hK⟩ := hv
  have hx := B.exec
  have hb := B.bytes
  have hr := B.returns
  have hts := atoms_spec (ws := sy_w y_DeviceSets_retain b_DeviceSets_retain 7 (some .int)) B.pre
  have ht : ∀ wd ∈ sy_T, wd.before ([.ref (g 0), .int (nI z), .long x] : List Value).toArray s = true := fun wd h => hts wd (List.mem_cons_of_mem _ h)
  have hown : s.vm.findClass R_DeviceSets = some m.cls := findClass_of_methodNamed B.named
  have hlocks := B.notSynchronized
  have hD := sy_self hD0
  generalize hAe : sy_A (xw G.2 g nd ns nb ++ (tw G.2 (g 3) (fun k => g (4 + k)) nT fI fL ++ sq (g (40 + 3 * z)) (g (41 + 3 * z)) (g (42 + 3 * z)) so sf sv)) = A at hD ⊢
  have hS : va_S A s.heap s.heap [] := va_S.rf
  have hl := lv_entry ([.ref (g 0), .int (nI z), .long x]) (n := 7) (Nat.le_of_ble_eq_true rfl)
  rw [lg_entry_eq]
  generalize (lg_sl ([.ref (g 0), .int (nI z), .long x]) ++ List.replicate (7 - (lg_sl ([.ref (g 0), .int (nI z), .long x])).length) Slot.unset).toArray = ls at hl ⊢
  have hl : lv_has ls 7 [(0, .ref (g 0)), (1, .int (nI z)), (2, .long x)] := hl
  refine lv_aload_n hx hb d_DeviceSets_retain_0 rfl (lv_at hl 0 rfl) ?_
  refine lv_iload_n hx hb d_DeviceSets_retain_1 rfl (lv_at hl 1 rfl) ?_
  refine va_csq (va_Run.run (sy_runV (As := [.int (nI z)]) (rest := []) (b := (g 0)) ⟨hx, hb, hml, hown, ht⟩ cl_DeviceSets_80 (c_DeviceSets_setAt l G g nd ns nb (nI z) (by omega)) hK (hP.sub [0, 1, 2] rfl) (va_recv hK.1 hP (ci := 0) (q0 := 0) rfl rfl) rfl nm_DeviceSets_setAt rfl rfl ⟨Nat.le_of_ble_eq_true rfl, Nat.le_of_ble_eq_true rfl⟩ hl.1 (Nat.le_of_ble_eq_true rfl) d_DeviceSets_retain_2 ⟨Nat.zero_le _, Nat.zero_le _⟩)) (fun r_1 hr_1 => ?_)
  have hq9 : mo_ok ns (nI z) = true := by simp [mo_ok, nI_pos' (show z < 2 ^ 31 by omega), nI_lt hz (show ns < 2 ^ 31 by omega)]
  have hr_1 : r_1 = some (g (40 + 3 * z)) := by rw [hr_1, xa_at, if_pos hq9, nI_clamp (show z < 2 ^ 31 by omega)]
  subst hr_1
  refine sy_tr (y := .ref (g (40 + 3 * z))) rfl ?_
  refine lv_astore (lv' := [(4, .ref (g (40 + 3 * z))), (0, .ref (g 0)), (1, .int (nI z)), (2, .long x)]) hx hb d_DeviceSets_retain_5 hl (by decide) rfl (fun ls hl => ?_)
  refine lv_aload hx hb d_DeviceSets_retain_7 (lv_at hl 0 rfl) ?_
  refine lv_ifnull hx hb d_DeviceSets_retain_9 ?_
  refine lv_lload_n hx hb d_DeviceSets_retain_12 rfl (lv_at hl 3 rfl) ?_
  refine lv_lconst (v := 0) hx hb d_DeviceSets_retain_13 (by decide) ?_
  refine sy_lc_lt (tgt := 26) hx hb d_DeviceSets_retain_14 d_DeviceSets_retain_15 (by decide) (fun c_2 => ?_) (fun c_2 => ?_)
  · have c_2n := sy_a64 c_2
    refine lv_iconst (v := (-1)) hx hb d_DeviceSets_retain_26 (by decide) ?_
    exact W.iret (v := (-1 : Int32)) hx hb hr (fun t ht hW => ⟨⟨(-1 : Int32), sf, rfl, by first | (constructor <;> simp [xm_retain, c_2, c_2n]; done) | (have h9 : ¬ (x < 0 ∨ ¬ x ≤ 2000000) := (by simp [c_2, c_2n]); constructor <;> (rw [xm_retain, if_neg h9]; rfl)), by show va_P _ _ _ t.heap; rw [ht]; exact hP⟩, hS.F ht⟩) hS.2.2 d_DeviceSets_retain_27
  · have c_2n := sy_b64 c_2
    refine lv_lload_n hx hb d_DeviceSets_retain_18 rfl (lv_at hl 3 rfl) ?_
    refine lv_ldc2 (v := 2000000) hx hb hown (ht _ m_438) d_DeviceSets_retain_19 ?_
    refine sy_lc_le (tgt := 28) hx hb d_DeviceSets_retain_22 d_DeviceSets_retain_23 (by decide) (fun c_3 => ?_) (fun c_3 => ?_)
    · have c_3n := sy_c64 c_3
      refine lv_aload_n hx hb d_DeviceSets_retain_28 rfl (lv_at hl 1 rfl) ?_
      refine lv_aload hx hb d_DeviceSets_retain_29 (lv_at hl 0 rfl) ?_
      refine va_getN (D := G.1) (ci := 4) (v := .ref (g (41 + 3 * z))) (C := R_ToldSet) (T := F_ToldSet) (N := 3) hx hb ht i_ToldSet hown hK.1 hP 11 rfl rfl 0 (by decide) (va_Nw.use rfl (hK.2 _ m_248)) (fun _ h9 => h9) rfl d_DeviceSets_retain_31 ?_
      refine vp_callSl (va_Run.run (sy_runV (As := [.ref (g (41 + 3 * z))]) (rest := []) (b := (g 0)) ⟨hx, hb, hml, hown, ht⟩ cl_DeviceSets_158 (c_DeviceSets_liveIn l G g nd ns nb nT fI fL (g (41 + 3 * z)) sf (by omega)) hK ⟨(hP.sub [0, 1, 2] rfl), (hP.sub [3, 4, 5, 6, 7, 8, 9, 10] rfl), (hP.sub [12] rfl)⟩ (va_recv hK.1 hP (ci := 0) (q0 := 0) rfl rfl) rfl nm_DeviceSets_liveIn rfl rfl ⟨Nat.le_of_ble_eq_true rfl, Nat.le_of_ble_eq_true rfl⟩ hl.1 (Nat.le_of_ble_eq_true rfl) d_DeviceSets_retain_34 ⟨Nat.zero_le _, Nat.zero_le _⟩)) (fun r_4 hr_4 => ?_)
      subst hr_4
      refine lv_lstore (lv' := [(5, .long (xl_live fL nT sf)), (4, .ref (g (40 + 3 * z))), (0, .ref (g 0)), (1, .int (nI z)), (2, .long x)]) hx hb d_DeviceSets_retain_37 hl (by decide) rfl (fun ls hl => ?_)
      refine lv_aload hx hb d_DeviceSets_retain_39 (lv_at hl 1 rfl) ?_
      refine va_getN (D := G.1) (ci := 4) (v := .ref (g (41 + 3 * z))) (C := R_ToldSet) (T := F_ToldSet) (N := 3) hx hb ht i_ToldSet hown hK.1 hP 11 rfl rfl 0 (by decide) (va_Nw.use rfl (hK.2 _ m_248)) (fun _ h9 => h9) rfl d_DeviceSets_retain_41 ?_
      refine lv_aload hx hb d_DeviceSets_retain_44 (lv_at hl 1 rfl) ?_
      refine va_getN (D := G.1) (ci := 4) (v := .ref (g (41 + 3 * z))) (C := R_ToldSet) (T := F_ToldSet) (N := 3) hx hb ht i_ToldSet hown hK.1 hP 11 rfl rfl 0 (by decide) (va_Nw.use rfl (hK.2 _ m_248)) (fun _ h9 => h9) rfl d_DeviceSets_retain_46 ?_
      refine va_getN (D := G.1) (ci := 3) (v := .long (sf 3)) (C := R_Held) (T := F_Held) (N := 4) hx hb ht i_Held hown hK.1 hP 12 rfl rfl 3 (by decide) (va_Nw.use rfl (hK.2 _ m_237)) (fun _ h9 => h9) rfl d_DeviceSets_retain_49 ?_
      refine lv_lload_n hx hb d_DeviceSets_retain_52 rfl (lv_at hl 4 rfl) ?_
      refine va_mmax_long hx hb (by rw [hml]; exact hl.1.symm) hown (ht _ m_439) (ht _ m_277) (ht _ m_38) (ht _ m_278) (Nat.le_of_ble_eq_true rfl) (Nat.le_of_ble_eq_true rfl) (Nat.zero_le _) (Nat.zero_le _) d_DeviceSets_retain_53 ?_
      refine va_putN (D := G.1) (ci := 3) (v := .long (if x < (sf 3) then (sf 3) else x)) (ty := .long) (C := R_Held) (T := F_Held) (N := 4) hx hb ht i_Held t_Held t_Held_ok n_Held hown hK.1 hP hD hS 12 rfl rfl 3 (by decide) (va_Nw.use rfl (hK.2 _ m_237)) (fun _ h9 => h9) rfl (by decide +kernel) rfl rfl (Nat.le_of_ble_eq_true rfl) d_DeviceSets_retain_56 (fun H locs hP hD hS => ?_)
      have hP : va_P G.1 classes (xw G.2 g nd ns nb ++ (tw G.2 (g 3) (fun k => g (4 + k)) nT fI fL ++ sq (g (40 + 3 * z)) (g (41 + 3 * z)) (g (42 + 3 * z)) so (va_up sf 3 (if x < (sf 3) then (sf 3) else x)) sv)) H := hP
      have hD : va_D A (xw G.2 g nd ns nb ++ (tw G.2 (g 3) (fun k => g (4 + k)) nT fI fL ++ sq (g (40 + 3 * z)) (g (41 + 3 * z)) (g (42 + 3 * z)) so (va_up sf 3 (if x < (sf 3) then (sf 3) else x)) sv)) := hD
      refine lv_lload hx hb d_DeviceSets_retain_59 (lv_at hl 0 rfl) ?_
      refine lv_aload_n hx hb d_DeviceSets_retain_61 rfl (lv_at hl 2 rfl) ?_
      refine lv_aload hx hb d_DeviceSets_retain_62 (lv_at hl 1 rfl) ?_
      refine va_getN (D := G.1) (ci := 4) (v := .ref (g (41 + 3 * z))) (C := R_ToldSet) (T := F_ToldSet) (N := 3) hx hb ht i_ToldSet hown hK.1 hP 11 rfl rfl 0 (by decide) (va_Nw.use rfl (hK.2 _ m_248)) (fun _ h9 => h9) rfl d_DeviceSets_retain_64 ?_
      refine vp_callSl (va_Run.run (sy_runV (As := [.ref (g (41 + 3 * z))]) (rest := [.long (xl_live fL nT sf)]) (b := (g 0)) ⟨hx, hb, hml, hown, ht⟩ cl_DeviceSets_158 (c_DeviceSets_liveIn l G g nd ns nb nT fI fL (g (41 + 3 * z)) (va_up sf 3 (if x < (sf 3) then (sf 3) else x)) (by omega)) hK ⟨(hP.sub [0, 1, 2] rfl), (hP.sub [3, 4, 5, 6, 7, 8, 9, 10] rfl), (hP.sub [12] rfl)⟩ (va_recv hK.1 hP (ci := 0) (q0 := 0) rfl rfl) rfl nm_DeviceSets_liveIn rfl rfl ⟨Nat.le_of_ble_eq_true rfl, Nat.le_of_ble_eq_true rfl⟩ hl.1 (Nat.le_of_ble_eq_true rfl) d_DeviceSets_retain_67 ⟨Nat.zero_le _, Nat.zero_le _⟩)) (fun r_5 hr_5 => ?_)
      subst hr_5
      refine lv_ldc2 (v := (-1)) hx hb hown (ht _ m_440) d_DeviceSets_retain_70 ?_
      refine lv_lxor hx hb d_DeviceSets_retain_73 ?_
      refine lv_land hx hb d_DeviceSets_retain_74 ?_
      refine vp_callSi (va_Run.run (sy_runS (As := [.long ((xl_live fL nT sf) &&& ((xl_live fL nT (va_up sf 3 (if x < (sf 3) then (sf 3) else x))) ^^^ (-1)))]) (rest := []) ⟨hx, hb, hml, hown, ht⟩ cl_DeviceSets_96 (c_Long_bitCount l G ((xl_live fL nT sf) &&& ((xl_live fL nT (va_up sf 3 (if x < (sf 3) then (sf 3) else x))) ^^^ (-1)))) hK trivial rfl nm_Long_bitCount rfl rfl ⟨Nat.le_of_ble_eq_true rfl, Nat.le_of_ble_eq_true rfl⟩ hl.1 (Nat.le_of_ble_eq_true rfl) d_DeviceSets_retain_75 ⟨Nat.zero_le _, Nat.zero_le _⟩)) (fun r_6 hr_6 => ?_)
      subst hr_6
      exact W.iret (v := lb_pc ((xl_live fL nT sf) &&& ((xl_live fL nT (va_up sf 3 (if x < (sf 3) then (sf 3) else x))) ^^^ (-1)))) hx hb hr (fun t ht hW => ⟨⟨lb_pc ((xl_live fL nT sf) &&& ((xl_live fL nT (va_up sf 3 (if x < (sf 3) then (sf 3) else x))) ^^^ (-1))), va_up sf 3 (if x < (sf 3) then (sf 3) else x), rfl, by first | (constructor <;> simp [xm_retain, c_2, c_2n, c_3, c_3n]; done) | (have h9 : ¬ (x < 0 ∨ ¬ x ≤ 2000000) := (by simp [c_2, c_2n, c_3, c_3n]); constructor <;> (rw [xm_retain, if_neg h9]; rfl)), by show va_P _ _ _ t.heap; rw [ht]; exact hP⟩, hS.F ht⟩) hS.2.2 d_DeviceSets_retain_78
    · have c_3n := sy_d64 c_3
      refine lv_iconst (v := (-1)) hx hb d_DeviceSets_retain_26 (by decide) ?_
      exact W.iret (v := (-1 : Int32)) hx hb hr (fun t ht hW => ⟨⟨(-1 : Int32), sf, rfl, by first | (constructor <;> simp [xm_retain, c_2, c_2n, c_3, c_3n]; done) | (have h9 : ¬ (x < 0 ∨ ¬ x ≤ 2000000) := (by simp [c_2, c_2n, c_3, c_3n]); constructor <;> (rw [xm_retain, if_neg h9]; rfl)), by show va_P _ _ _ t.heap; rw [ht]; exact hP⟩, hS.F ht⟩) hS.2.2 d_DeviceSets_retain_27
