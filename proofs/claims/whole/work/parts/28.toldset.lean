set_option maxHeartbeats 4000000 in
set_option maxRecDepth 100000 in
theorem c_ToldSet_bring (l : Launch) (G : sy_G) (sa : Nat) (sb : Nat) (sd : Nat) (so : Int32) (sf : Nat → Int64) (sv : Nat → Int64) (ta : Nat) (tb : Nat) (td : Nat) (to2 : Int32) (tf : Nat → Int64) (tv : Nat → Int64) : Met l y_ToldSet_bring (sy_w y_ToldSet_bring b_ToldSet_bring 2 (some .boolean)) { frames := 2, cells := 0, slots := 0, locals := 46 } (va_Pc [.ref sa, .ref ta] (sy_KP G (fun H => va_P G.1 classes (sq sa sb sd so sf sv ++ sq ta tb td to2 tf tv) H ∧ va_D (fun _ => True) (sq sa sb sd so sf sv ++ sq ta tb td to2 tf tv)))) (va_Qi (S := ((Nat → Int64) × (Nat → Int64))) (fun r u => r = bI (to_bring so sf sv tf).1 ∧ u = (to_bring so sf sv tf).2) (fun u t => va_P G.1 classes (sq sa sb sd so u.1 u.2 ++ sq ta tb td to2 tf tv) t.heap) (sy_A (sq sa sb sd so sf sv ++ sq ta tb td to2 tf tv))) 0 0 (sy_A (sq sa sb sd so sf sv ++ sq ta tb td to2 tf tv)) := by
  refine Met.ofW (cc := b_ToldSet_bring) (maxL := 2) (ret := (some .boolean)) (by decide) rfl ?_
  intro p e s m args below meth c s₁ B hml hv
  obtain ⟨rfl, ⟨hP, hD0⟩, hK⟩ := hv
  have hx := B.exec
  have hb := B.bytes
  have hr := B.returns
  have hts := atoms_spec (ws := sy_w y_ToldSet_bring b_ToldSet_bring 2 (some .boolean)) B.pre
  have ht : ∀ wd ∈ sy_T, wd.before ([.ref sa, .ref ta] : List Value).toArray s = true := fun wd h => hts wd (List.mem_cons_of_mem _ h)
  have hown : s.vm.findClass R_ToldSet = some m.cls := findClass_of_methodNamed B.named
  have hlocks := B.notSynchronized
  have hD := sy_self hD0
  generalize hAe : sy_A (sq sa sb sd so sf sv ++ sq ta tb td to2 tf tv) = A at hD ⊢
  have hS : va_S A s.heap s.heap [] := va_S.rf
  have hl := lv_entry ([.ref sa, .ref ta]) (n := 2) (Nat.le_of_ble_eq_true rfl)
  rw [lg_entry_eq]
  generalize (lg_sl ([.ref sa, .ref ta]) ++ List.replicate (2 - (lg_sl ([.ref sa, .ref ta])).length) Slot.unset).toArray = ls at hl ⊢
  have hl : lv_has ls 2 [(0, .ref sa), (1, .ref ta)] := hl
  refine lv_aload_n hx hb d_ToldSet_bring_0 rfl (lv_at hl 0 rfl) ?_
  refine va_get (D := G.1) (ci := 4) (v := .int so) (C := R_ToldSet) (T := F_ToldSet) (N := 3) hx hb ht i_ToldSet hown hK.1 hP 0 rfl rfl 2 (by decide) (ht _ m_250) (fun _ h9 => h9) rfl d_ToldSet_bring_1 ?_
  refine lv_iconst (v := (-1)) hx hb d_ToldSet_bring_4 (by decide) ?_
  refine lv_icmp_ne (tgt := 22) hx hb d_ToldSet_bring_5 (by decide) (fun c_1 => ?_) (fun c_1 => ?_)
  · refine lv_aload_n hx hb d_ToldSet_bring_22 rfl (lv_at hl 0 rfl) ?_
    refine va_get (D := G.1) (ci := 4) (v := .ref sd) (C := R_ToldSet) (T := F_ToldSet) (N := 3) hx hb ht i_ToldSet hown hK.1 hP 0 rfl rfl 1 (by decide) (ht _ m_249) (fun _ h9 => h9) rfl d_ToldSet_bring_23 ?_
    refine lv_aload_n hx hb d_ToldSet_bring_26 rfl (lv_at hl 1 rfl) ?_
    refine va_get (D := G.1) (ci := 4) (v := .ref tb) (C := R_ToldSet) (T := F_ToldSet) (N := 3) hx hb ht i_ToldSet hown hK.1 hP 3 rfl rfl 0 (by decide) (ht _ m_247) (fun _ h9 => h9) rfl d_ToldSet_bring_27 ?_
    have hPc : va_P G.1 classes (hh sd sv tb tf) s.heap := hP.sub [2, 4] rfl
    have hDc : va_D A (hh sd sv tb tf) := hD.sub [2, 4] (by decide) rfl
    refine va_calli (sy_runV (As := [.ref tb]) (rest := []) (b := sd) ⟨hx, hb, hml, hown, ht⟩ cl_ToldSet_29 (c_Held_takeIn l G sd sv tb tf) hK ⟨hPc, sy_any hDc⟩ (va_recv hK.1 hPc (ci := 3) (q0 := 0) rfl rfl) rfl nm_Held_takeIn rfl rfl ⟨Nat.le_of_ble_eq_true rfl, Nat.le_of_ble_eq_true rfl⟩ hl.1 (Nat.le_of_ble_eq_true rfl) d_ToldSet_bring_30 ⟨Nat.zero_le _, Nat.zero_le _⟩) hS (fun q _ h => sy_in hDc h) (fun q h => sy_in hDc h) (fun r_2 u_3 t9 H9 locs ht9 hvm9 hw9 hB9 hz9 hk9 hS => ?_)
    obtain ⟨hr_2, hu_3⟩ := hw9
    subst hr_2
    subst hu_3
    rw [ht9] at hB9
    have hP : va_P G.1 classes (sq sa sb sd so sf (he_join sv tf) ++ sq ta tb td to2 tf tv) H9 := sy_mix (wc := hh sd sv tb tf) hP hD [2, 4] rfl rfl hk9 hB9
    have hD : va_D A (sq sa sb sd so sf (he_join sv tf) ++ sq ta tb td to2 tf tv) := sy_Da hD rfl
    generalize H9 = H at hP hS ⊢
    refine sy_ti (y := bI (he_more sv tf)) rfl ?_
    exact W.zret (v := bI (he_more sv tf)) hx hb hr (bI_n _) (fun t ht hW => ⟨⟨bI (he_more sv tf), (sf, he_join sv tf), rfl, by constructor <;> simp [to_bring, c_1], by show va_P _ _ _ t.heap; rw [ht]; exact hP⟩, hS.F ht⟩) hS.2.2 d_ToldSet_bring_33
  · refine lv_aload_n hx hb d_ToldSet_bring_8 rfl (lv_at hl 0 rfl) ?_
    refine va_get (D := G.1) (ci := 4) (v := .ref sb) (C := R_ToldSet) (T := F_ToldSet) (N := 3) hx hb ht i_ToldSet hown hK.1 hP 0 rfl rfl 0 (by decide) (ht _ m_247) (fun _ h9 => h9) rfl d_ToldSet_bring_9 ?_
    refine lv_aload_n hx hb d_ToldSet_bring_12 rfl (lv_at hl 1 rfl) ?_
    refine va_get (D := G.1) (ci := 4) (v := .ref tb) (C := R_ToldSet) (T := F_ToldSet) (N := 3) hx hb ht i_ToldSet hown hK.1 hP 3 rfl rfl 0 (by decide) (ht _ m_247) (fun _ h9 => h9) rfl d_ToldSet_bring_13 ?_
    have hPc : va_P G.1 classes (hh sb sf tb tf) s.heap := hP.sub [1, 4] rfl
    have hDc : va_D A (hh sb sf tb tf) := hD.sub [1, 4] (by decide) rfl
    refine va_calli (sy_runV (As := [.ref tb]) (rest := []) (b := sb) ⟨hx, hb, hml, hown, ht⟩ cl_ToldSet_29 (c_Held_takeIn l G sb sf tb tf) hK ⟨hPc, sy_any hDc⟩ (va_recv hK.1 hPc (ci := 3) (q0 := 0) rfl rfl) rfl nm_Held_takeIn rfl rfl ⟨Nat.le_of_ble_eq_true rfl, Nat.le_of_ble_eq_true rfl⟩ hl.1 (Nat.le_of_ble_eq_true rfl) d_ToldSet_bring_16 ⟨Nat.zero_le _, Nat.zero_le _⟩) hS (fun q _ h => sy_in hDc h) (fun q h => sy_in hDc h) (fun r_4 u_5 t9 H9 locs ht9 hvm9 hw9 hB9 hz9 hk9 hS => ?_)
    obtain ⟨hr_4, hu_5⟩ := hw9
    subst hr_4
    subst hu_5
    rw [ht9] at hB9
    have hP : va_P G.1 classes (sq sa sb sd so (he_join sf tf) sv ++ sq ta tb td to2 tf tv) H9 := sy_mix (wc := hh sb sf tb tf) hP hD [1, 4] rfl rfl hk9 hB9
    have hD : va_D A (sq sa sb sd so (he_join sf tf) sv ++ sq ta tb td to2 tf tv) := sy_Da hD rfl
    generalize H9 = H at hP hS ⊢
    refine sy_ti (y := bI (he_more sf tf)) rfl ?_
    refine lv_goto (tgt := 33) hx hb d_ToldSet_bring_19 (by decide) ?_
    exact W.zret (v := bI (he_more sf tf)) hx hb hr (bI_n _) (fun t ht hW => ⟨⟨bI (he_more sf tf), (he_join sf tf, sv), rfl, by constructor <;> simp [to_bring, c_1], by show va_P _ _ _ t.heap; rw [ht]; exact hP⟩, hS.F ht⟩) hS.2.2 d_ToldSet_bring_33
set_option maxHeartbeats 4000000 in
set_option maxRecDepth 100000 in
theorem c_ToldSet_bringS (l : Launch) (G : sy_G) (sa : Nat) (sb : Nat) (sd : Nat) (so : Int32) (sf : Nat → Int64) (sv : Nat → Int64) : Met l y_ToldSet_bring (sy_w y_ToldSet_bring b_ToldSet_bring 2 (some .boolean)) { frames := 2, cells := 0, slots := 0, locals := 46 } (va_Pc [.ref sa, .ref sa] (sy_KP G (fun H => va_P G.1 classes (sq sa sb sd so sf sv) H ∧ va_D (fun _ => True) (sq sa sb sd so sf sv)))) (va_Qi (S := ((Nat → Int64) × (Nat → Int64))) (fun r u => r = bI (to_bring so sf sv sf).1 ∧ u = (to_bring so sf sv sf).2) (fun u t => va_P G.1 classes (sq sa sb sd so u.1 u.2) t.heap) (sy_A (sq sa sb sd so sf sv))) 0 0 (sy_A (sq sa sb sd so sf sv)) := by
  refine Met.ofW (cc := b_ToldSet_bring) (maxL := 2) (ret := (some .boolean)) (by decide) rfl ?_
  intro p e s m args below meth c s₁ B hml hv
  obtain ⟨rfl, ⟨hP, hD0⟩, hK⟩ := hv
  have hx := B.exec
  have hb := B.bytes
  have hr := B.returns
  have hts := atoms_spec (ws := sy_w y_ToldSet_bring b_ToldSet_bring 2 (some .boolean)) B.pre
  have ht : ∀ wd ∈ sy_T, wd.before ([.ref sa, .ref sa] : List Value).toArray s = true := fun wd h => hts wd (List.mem_cons_of_mem _ h)
  have hown : s.vm.findClass R_ToldSet = some m.cls := findClass_of_methodNamed B.named
  have hlocks := B.notSynchronized
  have hD := sy_self hD0
  generalize hAe : sy_A (sq sa sb sd so sf sv) = A at hD ⊢
  have hS : va_S A s.heap s.heap [] := va_S.rf
  have hl := lv_entry ([.ref sa, .ref sa]) (n := 2) (Nat.le_of_ble_eq_true rfl)
  rw [lg_entry_eq]
  generalize (lg_sl ([.ref sa, .ref sa]) ++ List.replicate (2 - (lg_sl ([.ref sa, .ref sa])).length) Slot.unset).toArray = ls at hl ⊢
  have hl : lv_has ls 2 [(0, .ref sa), (1, .ref sa)] := hl
  refine lv_aload_n hx hb d_ToldSet_bring_0 rfl (lv_at hl 0 rfl) ?_
  refine va_get (D := G.1) (ci := 4) (v := .int so) (C := R_ToldSet) (T := F_ToldSet) (N := 3) hx hb ht i_ToldSet hown hK.1 hP 0 rfl rfl 2 (by decide) (ht _ m_250) (fun _ h9 => h9) rfl d_ToldSet_bring_1 ?_
  refine lv_iconst (v := (-1)) hx hb d_ToldSet_bring_4 (by decide) ?_
  refine lv_icmp_ne (tgt := 22) hx hb d_ToldSet_bring_5 (by decide) (fun c_1 => ?_) (fun c_1 => ?_)
  · refine lv_aload_n hx hb d_ToldSet_bring_22 rfl (lv_at hl 0 rfl) ?_
    refine va_get (D := G.1) (ci := 4) (v := .ref sd) (C := R_ToldSet) (T := F_ToldSet) (N := 3) hx hb ht i_ToldSet hown hK.1 hP 0 rfl rfl 1 (by decide) (ht _ m_249) (fun _ h9 => h9) rfl d_ToldSet_bring_23 ?_
    refine lv_aload_n hx hb d_ToldSet_bring_26 rfl (lv_at hl 1 rfl) ?_
    refine va_get (D := G.1) (ci := 4) (v := .ref sb) (C := R_ToldSet) (T := F_ToldSet) (N := 3) hx hb ht i_ToldSet hown hK.1 hP 0 rfl rfl 0 (by decide) (ht _ m_247) (fun _ h9 => h9) rfl d_ToldSet_bring_27 ?_
    have hPc : va_P G.1 classes (hh sd sv sb sf) s.heap := hP.sub [2, 1] rfl
    have hDc : va_D A (hh sd sv sb sf) := hD.sub [2, 1] (by decide) rfl
    refine va_calli (sy_runV (As := [.ref sb]) (rest := []) (b := sd) ⟨hx, hb, hml, hown, ht⟩ cl_ToldSet_29 (c_Held_takeIn l G sd sv sb sf) hK ⟨hPc, sy_any hDc⟩ (va_recv hK.1 hPc (ci := 3) (q0 := 0) rfl rfl) rfl nm_Held_takeIn rfl rfl ⟨Nat.le_of_ble_eq_true rfl, Nat.le_of_ble_eq_true rfl⟩ hl.1 (Nat.le_of_ble_eq_true rfl) d_ToldSet_bring_30 ⟨Nat.zero_le _, Nat.zero_le _⟩) hS (fun q _ h => sy_in hDc h) (fun q h => sy_in hDc h) (fun r_2 u_3 t9 H9 locs ht9 hvm9 hw9 hB9 hz9 hk9 hS => ?_)
    obtain ⟨hr_2, hu_3⟩ := hw9
    subst hr_2
    subst hu_3
    rw [ht9] at hB9
    have hP : va_P G.1 classes (sq sa sb sd so sf (he_join sv sf)) H9 := sy_mix (wc := hh sd sv sb sf) hP hD [2, 1] rfl rfl hk9 hB9
    have hD : va_D A (sq sa sb sd so sf (he_join sv sf)) := sy_Da hD rfl
    generalize H9 = H at hP hS ⊢
    refine sy_ti (y := bI (he_more sv sf)) rfl ?_
    exact W.zret (v := bI (he_more sv sf)) hx hb hr (bI_n _) (fun t ht hW => ⟨⟨bI (he_more sv sf), (sf, he_join sv sf), rfl, by constructor <;> simp [to_bring, c_1], by show va_P _ _ _ t.heap; rw [ht]; exact hP⟩, hS.F ht⟩) hS.2.2 d_ToldSet_bring_33
  · refine lv_aload_n hx hb d_ToldSet_bring_8 rfl (lv_at hl 0 rfl) ?_
    refine va_get (D := G.1) (ci := 4) (v := .ref sb) (C := R_ToldSet) (T := F_ToldSet) (N := 3) hx hb ht i_ToldSet hown hK.1 hP 0 rfl rfl 0 (by decide) (ht _ m_247) (fun _ h9 => h9) rfl d_ToldSet_bring_9 ?_
    refine lv_aload_n hx hb d_ToldSet_bring_12 rfl (lv_at hl 1 rfl) ?_
    refine va_get (D := G.1) (ci := 4) (v := .ref sb) (C := R_ToldSet) (T := F_ToldSet) (N := 3) hx hb ht i_ToldSet hown hK.1 hP 0 rfl rfl 0 (by decide) (ht _ m_247) (fun _ h9 => h9) rfl d_ToldSet_bring_13 ?_
    have hPc : va_P G.1 classes (hw sb sf) s.heap := hP.sub [1] rfl
    have hDc : va_D A (hw sb sf) := hD.sub [1] (by decide) rfl
    refine va_calli (sy_runV (As := [.ref sb]) (rest := []) (b := sb) ⟨hx, hb, hml, hown, ht⟩ cl_ToldSet_29 (c_Held_takeInS l G sb sf) hK ⟨hPc, sy_any hDc⟩ (va_recv hK.1 hPc (ci := 3) (q0 := 0) rfl rfl) rfl nm_Held_takeIn rfl rfl ⟨Nat.le_of_ble_eq_true rfl, Nat.le_of_ble_eq_true rfl⟩ hl.1 (Nat.le_of_ble_eq_true rfl) d_ToldSet_bring_16 ⟨Nat.zero_le _, Nat.zero_le _⟩) hS (fun q _ h => sy_in hDc h) (fun q h => sy_in hDc h) (fun r_4 u_5 t9 H9 locs ht9 hvm9 hw9 hB9 hz9 hk9 hS => ?_)
    obtain ⟨hr_4, hu_5⟩ := hw9
    subst hr_4
    subst hu_5
    rw [ht9] at hB9
    have hP : va_P G.1 classes (sq sa sb sd so (he_join sf sf) sv) H9 := sy_mix (wc := hw sb sf) hP hD [1] rfl rfl hk9 hB9
    have hD : va_D A (sq sa sb sd so (he_join sf sf) sv) := sy_Da hD rfl
    generalize H9 = H at hP hS ⊢
    refine sy_ti (y := bI (he_more sf sf)) rfl ?_
    refine lv_goto (tgt := 33) hx hb d_ToldSet_bring_19 (by decide) ?_
    exact W.zret (v := bI (he_more sf sf)) hx hb hr (bI_n _) (fun t ht hW => ⟨⟨bI (he_more sf sf), (he_join sf sf, sv), rfl, by constructor <;> simp [to_bring, c_1], by show va_P _ _ _ t.heap; rw [ht]; exact hP⟩, hS.F ht⟩) hS.2.2 d_ToldSet_bring_33
set_option maxHeartbeats 4000000 in
set_option maxRecDepth 100000 in
theorem c_ToldSet_takeWaiting (l : Launch) (G : sy_G) (sa : Nat) (sb : Nat) (sd : Nat) (so : Int32) (sf : Nat → Int64) (sv : Nat → Int64) : Met l y_ToldSet_takeWaiting (sy_w y_ToldSet_takeWaiting b_ToldSet_takeWaiting 1 none) { frames := 2, cells := 0, slots := 0, locals := 46 } (va_Pc [.ref sa] (sy_KP G (fun H => va_P G.1 classes (sq sa sb sd so sf sv) H ∧ va_D (fun _ => True) (sq sa sb sd so sf sv)))) (va_Qv (S := (Int32 × (Nat → Int64) × (Nat → Int64))) (fun u => u = ((-1 : Int32), he_join sf sv, he_zero sv)) (fun u t => va_P G.1 classes (sq sa sb sd u.1 u.2.1 u.2.2) t.heap) (sy_A (sq sa sb sd so sf sv))) 0 0 (sy_A (sq sa sb sd so sf sv)) := by
  refine Met.ofW (cc := b_ToldSet_takeWaiting) (maxL := 1) (ret := none) (by decide) rfl ?_
  intro p e s m args below meth c s₁ B hml hv
  obtain ⟨rfl, ⟨hP, hD0⟩, hK⟩ := hv
  have hx := B.exec
  have hb := B.bytes
  have hr := B.returns
  have hts := atoms_spec (ws := sy_w y_ToldSet_takeWaiting b_ToldSet_takeWaiting 1 none) B.pre
  have ht : ∀ wd ∈ sy_T, wd.before ([.ref sa] : List Value).toArray s = true := fun wd h => hts wd (List.mem_cons_of_mem _ h)
  have hown : s.vm.findClass R_ToldSet = some m.cls := findClass_of_methodNamed B.named
  have hlocks := B.notSynchronized
  have hD := sy_self hD0
  generalize hAe : sy_A (sq sa sb sd so sf sv) = A at hD ⊢
  have hS : va_S A s.heap s.heap [] := va_S.rf
  have hl := lv_entry ([.ref sa]) (n := 1) (Nat.le_of_ble_eq_true rfl)
  rw [lg_entry_eq]
  generalize (lg_sl ([.ref sa]) ++ List.replicate (1 - (lg_sl ([.ref sa])).length) Slot.unset).toArray = ls at hl ⊢
  have hl : lv_has ls 1 [(0, .ref sa)] := hl
  refine lv_aload_n hx hb d_ToldSet_takeWaiting_0 rfl (lv_at hl 0 rfl) ?_
  refine va_get (D := G.1) (ci := 4) (v := .ref sb) (C := R_ToldSet) (T := F_ToldSet) (N := 3) hx hb ht i_ToldSet hown hK.1 hP 0 rfl rfl 0 (by decide) (ht _ m_247) (fun _ h9 => h9) rfl d_ToldSet_takeWaiting_1 ?_
  refine lv_aload_n hx hb d_ToldSet_takeWaiting_4 rfl (lv_at hl 0 rfl) ?_
  refine va_get (D := G.1) (ci := 4) (v := .ref sd) (C := R_ToldSet) (T := F_ToldSet) (N := 3) hx hb ht i_ToldSet hown hK.1 hP 0 rfl rfl 1 (by decide) (ht _ m_249) (fun _ h9 => h9) rfl d_ToldSet_takeWaiting_5 ?_
  have hPc : va_P G.1 classes (hh sb sf sd sv) s.heap := hP.sub [1, 2] rfl
  have hDc : va_D A (hh sb sf sd sv) := hD.sub [1, 2] (by decide) rfl
  refine va_calli (sy_runV (As := [.ref sd]) (rest := []) (b := sb) ⟨hx, hb, hml, hown, ht⟩ cl_ToldSet_29 (c_Held_takeIn l G sb sf sd sv) hK ⟨hPc, sy_any hDc⟩ (va_recv hK.1 hPc (ci := 3) (q0 := 0) rfl rfl) rfl nm_Held_takeIn rfl rfl ⟨Nat.le_of_ble_eq_true rfl, Nat.le_of_ble_eq_true rfl⟩ hl.1 (Nat.le_of_ble_eq_true rfl) d_ToldSet_takeWaiting_8 ⟨Nat.zero_le _, Nat.zero_le _⟩) hS (fun q _ h => sy_in hDc h) (fun q h => sy_in hDc h) (fun r_1 u_2 t9 H9 locs ht9 hvm9 hw9 hB9 hz9 hk9 hS => ?_)
  obtain ⟨hr_1, hu_2⟩ := hw9
  subst hr_1
  subst hu_2
  rw [ht9] at hB9
  have hP : va_P G.1 classes (sq sa sb sd so (he_join sf sv) sv) H9 := sy_mix (wc := hh sb sf sd sv) hP hD [1, 2] rfl rfl hk9 hB9
  have hD : va_D A (sq sa sb sd so (he_join sf sv) sv) := sy_Da hD rfl
  generalize H9 = H at hP hS ⊢
  refine sy_ti (y := bI (he_more sf sv)) rfl ?_
  refine lv_pop hx hb d_ToldSet_takeWaiting_11 rfl ?_
  refine lv_aload_n hx hb d_ToldSet_takeWaiting_12 rfl (lv_at hl 0 rfl) ?_
  refine va_get (D := G.1) (ci := 4) (v := .ref sd) (C := R_ToldSet) (T := F_ToldSet) (N := 3) hx hb ht i_ToldSet hown hK.1 hP 0 rfl rfl 1 (by decide) (ht _ m_249) (fun _ h9 => h9) rfl d_ToldSet_takeWaiting_13 ?_
  have hPc : va_P G.1 classes (hw sd sv) H := hP.sub [2] rfl
  have hDc : va_D A (hw sd sv) := hD.sub [2] (by decide) rfl
  refine va_callv (sy_runV (As := []) (rest := []) (b := sd) ⟨hx, hb, hml, hown, ht⟩ cl_ToldSet_33 (c_Held_clear l G sd sv) hK ⟨hPc, sy_any hDc⟩ (va_recv hK.1 hPc (ci := 3) (q0 := 0) rfl rfl) rfl nm_Held_clear rfl rfl ⟨Nat.le_of_ble_eq_true rfl, Nat.le_of_ble_eq_true rfl⟩ hl.1 (Nat.le_of_ble_eq_true rfl) d_ToldSet_takeWaiting_16 ⟨Nat.zero_le _, Nat.zero_le _⟩) hS (fun q _ h => sy_in hDc h) (fun q h => sy_in hDc h) (fun u_4 t9 H9 locs ht9 hvm9 hw9 hB9 hz9 hk9 hS => ?_)
  subst hw9
  rw [ht9] at hB9
  have hP : va_P G.1 classes (sq sa sb sd so (he_join sf sv) (he_zero sv)) H9 := sy_mix (wc := hw sd sv) hP hD [2] rfl rfl hk9 hB9
  have hD : va_D A (sq sa sb sd so (he_join sf sv) (he_zero sv)) := sy_Da hD rfl
  generalize H9 = H at hP hS ⊢
  refine lv_aload_n hx hb d_ToldSet_takeWaiting_19 rfl (lv_at hl 0 rfl) ?_
  refine lv_iconst (v := (-1)) hx hb d_ToldSet_takeWaiting_20 (by decide) ?_
  refine va_put (D := G.1) (ci := 4) (v := .int (-1)) (ty := .int) (C := R_ToldSet) (T := F_ToldSet) (N := 3) hx hb ht i_ToldSet t_ToldSet t_ToldSet_ok n_ToldSet hown hK.1 hP hD hS 0 rfl rfl 2 (by decide) (ht _ m_250) (fun _ h9 => h9) rfl (by decide +kernel) rfl rfl (Nat.le_of_ble_eq_true rfl) d_ToldSet_takeWaiting_21 (fun H locs hP hD hS => ?_)
  have hP : va_P G.1 classes (sq sa sb sd (-1 : Int32) (he_join sf sv) (he_zero sv)) H := hP
  have hD : va_D A (sq sa sb sd (-1 : Int32) (he_join sf sv) (he_zero sv)) := hD
  exact W.vret hx hb hr (fun t ht hW => ⟨⟨((-1 : Int32), he_join sf sv, he_zero sv), rfl, rfl, by show va_P _ _ _ t.heap; rw [ht]; exact hP⟩, hS.F ht⟩) hS.2.2 d_ToldSet_takeWaiting_24
