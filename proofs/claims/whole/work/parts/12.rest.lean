set_option maxHeartbeats 4000000 in
set_option maxRecDepth 100000 in
theorem c_Corrections_isFor (l : Launch) (G : sy_G) (h0 : Nat) (ad : Nat → Nat) (n : Nat) (fI : Nat → Nat → Int32) (fL : Nat → Nat → Int64) (i : Nat) (d : Int32) (kd : Int32) (se : Int64) (hi : i < 20) : Met l y_Corrections_isFor (sy_w y_Corrections_isFor b_Corrections_isFor 6 (some .boolean)) { frames := 0, cells := 0, slots := 0, locals := 0 } (va_Pc [.ref h0, .int (nI i), .int d, .int kd, .long se] (sy_KP G (va_P G.1 classes (cw G.2 h0 ad n fI fL)))) (vp_Si (fun r => r = bI (co_for fI fL d kd se i))) 0 0 (fun _ => False) := by
  refine Met.ofW (cc := b_Corrections_isFor) (maxL := 6) (ret := (some .boolean)) (by decide) rfl ?_
  intro p e s m args below meth c s₁ B hml hv
  obtain ⟨rfl, hP, hK⟩ := hv
  have hx := B.exec
  have hb := B.bytes
  have hr := B.returns
  have hts := atoms_spec (ws := sy_w y_Corrections_isFor b_Corrections_isFor 6 (some .boolean)) B.pre
  have ht : ∀ wd ∈ sy_T, wd.before ([.ref h0, .int (nI i), .int d, .int kd, .long se] : List Value).toArray s = true := fun wd h => hts wd (List.mem_cons_of_mem _ h)
  have hown : s.vm.findClass R_Corrections = some m.cls := findClass_of_methodNamed B.named
  have hlocks := B.notSynchronized
  have hl := lv_entry ([.ref h0, .int (nI i), .int d, .int kd, .long se]) (n := 6) (Nat.le_of_ble_eq_true rfl)
  rw [lg_entry_eq]
  generalize (lg_sl ([.ref h0, .int (nI i), .int d, .int kd, .long se]) ++ List.replicate (6 - (lg_sl ([.ref h0, .int (nI i), .int d, .int kd, .long se])).length) Slot.unset).toArray = ls at hl ⊢
  have hl : lv_has ls 6 [(0, .ref h0), (1, .int (nI i)), (2, .int d), (3, .int kd), (4, .long se)] := hl
  refine lv_aload_n hx hb d_Corrections_isFor_0 rfl (lv_at hl 0 rfl) ?_
  refine va_get (D := G.1) (ci := 6) (v := .ref (ad 0)) (C := R_Corrections) (T := F_Corrections) (N := 6) hx hb ht i_Corrections hown hK.1 hP 0 rfl rfl 0 (by decide) (ht _ m_93) (fun _ h9 => h9) rfl d_Corrections_isFor_1 ?_
  refine lv_iload_n hx hb d_Corrections_isFor_4 rfl (lv_at hl 1 rfl) ?_
  refine sy_iald hx hb hK.1 hP 1 0 rfl rfl (k := i) (by omega) (by decide) d_Corrections_isFor_5 ?_
  refine lv_iload_n hx hb d_Corrections_isFor_6 rfl (lv_at hl 2 rfl) ?_
  refine lv_icmp_ne (tgt := 36) hx hb d_Corrections_isFor_7 (by decide) (fun c_1 => ?_) (fun c_1 => ?_)
  · refine lv_iconst (v := 0) hx hb d_Corrections_isFor_36 (by decide) ?_
    exact W.zret (v := (0 : Int32)) hx hb hr (rfl) (fun t ht hW => ⟨(0 : Int32), rfl, by simp [bI, co_for, c_1], ht⟩) (fun q h => by cases h) d_Corrections_isFor_37
  · refine lv_aload_n hx hb d_Corrections_isFor_10 rfl (lv_at hl 0 rfl) ?_
    refine va_get (D := G.1) (ci := 6) (v := .ref (ad 1)) (C := R_Corrections) (T := F_Corrections) (N := 6) hx hb ht i_Corrections hown hK.1 hP 0 rfl rfl 1 (by decide) (ht _ m_94) (fun _ h9 => h9) rfl d_Corrections_isFor_11 ?_
    refine lv_iload_n hx hb d_Corrections_isFor_14 rfl (lv_at hl 1 rfl) ?_
    refine sy_iald hx hb hK.1 hP 2 0 rfl rfl (k := i) (by omega) (by decide) d_Corrections_isFor_15 ?_
    refine lv_iload_n hx hb d_Corrections_isFor_16 rfl (lv_at hl 3 rfl) ?_
    refine lv_icmp_ne (tgt := 36) hx hb d_Corrections_isFor_17 (by decide) (fun c_2 => ?_) (fun c_2 => ?_)
    · refine lv_iconst (v := 0) hx hb d_Corrections_isFor_36 (by decide) ?_
      exact W.zret (v := (0 : Int32)) hx hb hr (rfl) (fun t ht hW => ⟨(0 : Int32), rfl, by simp [bI, co_for, c_1, c_2], ht⟩) (fun q h => by cases h) d_Corrections_isFor_37
    · refine lv_aload_n hx hb d_Corrections_isFor_20 rfl (lv_at hl 0 rfl) ?_
      refine va_get (D := G.1) (ci := 6) (v := .ref (ad 2)) (C := R_Corrections) (T := F_Corrections) (N := 6) hx hb ht i_Corrections hown hK.1 hP 0 rfl rfl 2 (by decide) (ht _ m_95) (fun _ h9 => h9) rfl d_Corrections_isFor_21 ?_
      refine lv_iload_n hx hb d_Corrections_isFor_24 rfl (lv_at hl 1 rfl) ?_
      refine sy_lald hx hb hK.1 hP 3 1 rfl rfl (k := i) (by omega) (by decide) d_Corrections_isFor_25 ?_
      refine lv_lload hx hb d_Corrections_isFor_26 (lv_at hl 4 rfl) ?_
      refine sy_lc_ne (tgt := 36) hx hb d_Corrections_isFor_28 d_Corrections_isFor_29 (by decide) (fun c_3 => ?_) (fun c_3 => ?_)
      · refine lv_iconst (v := 0) hx hb d_Corrections_isFor_36 (by decide) ?_
        exact W.zret (v := (0 : Int32)) hx hb hr (rfl) (fun t ht hW => ⟨(0 : Int32), rfl, by simp [bI, co_for, c_1, c_2, c_3], ht⟩) (fun q h => by cases h) d_Corrections_isFor_37
      · refine lv_iconst (v := 1) hx hb d_Corrections_isFor_32 (by decide) ?_
        refine lv_goto (tgt := 37) hx hb d_Corrections_isFor_33 (by decide) ?_
        exact W.zret (v := (1 : Int32)) hx hb hr (rfl) (fun t ht hW => ⟨(1 : Int32), rfl, by simp [bI, co_for, c_1, c_2, c_3], ht⟩) (fun q h => by cases h) d_Corrections_isFor_37
set_option maxHeartbeats 4000000 in
set_option maxRecDepth 100000 in
theorem c_Corrections_isStronger (l : Launch) (G : sy_G) (h0 : Nat) (ad : Nat → Nat) (n : Nat) (fI : Nat → Nat → Int32) (fL : Nat → Nat → Int64) (a : Nat) (b : Nat) (ha : a < 20) (hb2 : b < 20) : Met l y_Corrections_isStronger (sy_w y_Corrections_isStronger b_Corrections_isStronger 3 (some .boolean)) { frames := 0, cells := 0, slots := 0, locals := 0 } (va_Pc [.ref h0, .int (nI a), .int (nI b)] (sy_KP G (va_P G.1 classes (cw G.2 h0 ad n fI fL)))) (vp_Si (fun r => r = bI (co_st fL a b))) 0 0 (fun _ => False) := by
  refine Met.ofW (cc := b_Corrections_isStronger) (maxL := 3) (ret := (some .boolean)) (by decide) rfl ?_
  intro p e s m args below meth c s₁ B hml hv
  obtain ⟨rfl, hP, hK⟩ := hv
  have hx := B.exec
  have hb := B.bytes
  have hr := B.returns
  have hts := atoms_spec (ws := sy_w y_Corrections_isStronger b_Corrections_isStronger 3 (some .boolean)) B.pre
  have ht : ∀ wd ∈ sy_T, wd.before ([.ref h0, .int (nI a), .int (nI b)] : List Value).toArray s = true := fun wd h => hts wd (List.mem_cons_of_mem _ h)
  have hown : s.vm.findClass R_Corrections = some m.cls := findClass_of_methodNamed B.named
  have hlocks := B.notSynchronized
  have hl := lv_entry ([.ref h0, .int (nI a), .int (nI b)]) (n := 3) (Nat.le_of_ble_eq_true rfl)
  rw [lg_entry_eq]
  generalize (lg_sl ([.ref h0, .int (nI a), .int (nI b)]) ++ List.replicate (3 - (lg_sl ([.ref h0, .int (nI a), .int (nI b)])).length) Slot.unset).toArray = ls at hl ⊢
  have hl : lv_has ls 3 [(0, .ref h0), (1, .int (nI a)), (2, .int (nI b))] := hl
  refine lv_aload_n hx hb d_Corrections_isStronger_0 rfl (lv_at hl 0 rfl) ?_
  refine va_get (D := G.1) (ci := 6) (v := .ref (ad 4)) (C := R_Corrections) (T := F_Corrections) (N := 6) hx hb ht i_Corrections hown hK.1 hP 0 rfl rfl 4 (by decide) (ht _ m_98) (fun _ h9 => h9) rfl d_Corrections_isStronger_1 ?_
  refine lv_iload_n hx hb d_Corrections_isStronger_4 rfl (lv_at hl 1 rfl) ?_
  refine sy_lald hx hb hK.1 hP 5 1 rfl rfl (k := a) (by omega) (by decide) d_Corrections_isStronger_5 ?_
  refine lv_aload_n hx hb d_Corrections_isStronger_6 rfl (lv_at hl 0 rfl) ?_
  refine va_get (D := G.1) (ci := 6) (v := .ref (ad 4)) (C := R_Corrections) (T := F_Corrections) (N := 6) hx hb ht i_Corrections hown hK.1 hP 0 rfl rfl 4 (by decide) (ht _ m_98) (fun _ h9 => h9) rfl d_Corrections_isStronger_7 ?_
  refine lv_iload_n hx hb d_Corrections_isStronger_10 rfl (lv_at hl 2 rfl) ?_
  refine sy_lald hx hb hK.1 hP 5 1 rfl rfl (k := b) (by omega) (by decide) d_Corrections_isStronger_11 ?_
  refine sy_lc_eq (tgt := 40) hx hb d_Corrections_isStronger_12 d_Corrections_isStronger_13 (by decide) (fun c_1 => ?_) (fun c_1 => ?_)
  · refine lv_aload_n hx hb d_Corrections_isStronger_40 rfl (lv_at hl 0 rfl) ?_
    refine va_get (D := G.1) (ci := 6) (v := .ref (ad 3)) (C := R_Corrections) (T := F_Corrections) (N := 6) hx hb ht i_Corrections hown hK.1 hP 0 rfl rfl 3 (by decide) (ht _ m_96) (fun _ h9 => h9) rfl d_Corrections_isStronger_41 ?_
    refine lv_iload_n hx hb d_Corrections_isStronger_44 rfl (lv_at hl 1 rfl) ?_
    refine sy_lald hx hb hK.1 hP 4 1 rfl rfl (k := a) (by omega) (by decide) d_Corrections_isStronger_45 ?_
    refine lv_aload_n hx hb d_Corrections_isStronger_46 rfl (lv_at hl 0 rfl) ?_
    refine va_get (D := G.1) (ci := 6) (v := .ref (ad 3)) (C := R_Corrections) (T := F_Corrections) (N := 6) hx hb ht i_Corrections hown hK.1 hP 0 rfl rfl 3 (by decide) (ht _ m_96) (fun _ h9 => h9) rfl d_Corrections_isStronger_47 ?_
    refine lv_iload_n hx hb d_Corrections_isStronger_50 rfl (lv_at hl 2 rfl) ?_
    refine sy_lald hx hb hK.1 hP 4 1 rfl rfl (k := b) (by omega) (by decide) d_Corrections_isStronger_51 ?_
    refine sy_lc_le (tgt := 60) hx hb d_Corrections_isStronger_52 d_Corrections_isStronger_53 (by decide) (fun c_2 => ?_) (fun c_2 => ?_)
    · have c_2n := sy_c64 c_2
      refine lv_iconst (v := 0) hx hb d_Corrections_isStronger_60 (by decide) ?_
      exact W.zret (v := (0 : Int32)) hx hb hr (rfl) (fun t ht hW => ⟨(0 : Int32), rfl, by simp [bI, co_st, c_1, c_2, c_2n], ht⟩) (fun q h => by cases h) d_Corrections_isStronger_61
    · have c_2n := sy_d64 c_2
      refine lv_iconst (v := 1) hx hb d_Corrections_isStronger_56 (by decide) ?_
      refine lv_goto (tgt := 61) hx hb d_Corrections_isStronger_57 (by decide) ?_
      exact W.zret (v := (1 : Int32)) hx hb hr (rfl) (fun t ht hW => ⟨(1 : Int32), rfl, by simp [bI, co_st, c_1, c_2, c_2n], ht⟩) (fun q h => by cases h) d_Corrections_isStronger_61
  · refine lv_aload_n hx hb d_Corrections_isStronger_16 rfl (lv_at hl 0 rfl) ?_
    refine va_get (D := G.1) (ci := 6) (v := .ref (ad 4)) (C := R_Corrections) (T := F_Corrections) (N := 6) hx hb ht i_Corrections hown hK.1 hP 0 rfl rfl 4 (by decide) (ht _ m_98) (fun _ h9 => h9) rfl d_Corrections_isStronger_17 ?_
    refine lv_iload_n hx hb d_Corrections_isStronger_20 rfl (lv_at hl 1 rfl) ?_
    refine sy_lald hx hb hK.1 hP 5 1 rfl rfl (k := a) (by omega) (by decide) d_Corrections_isStronger_21 ?_
    refine lv_aload_n hx hb d_Corrections_isStronger_22 rfl (lv_at hl 0 rfl) ?_
    refine va_get (D := G.1) (ci := 6) (v := .ref (ad 4)) (C := R_Corrections) (T := F_Corrections) (N := 6) hx hb ht i_Corrections hown hK.1 hP 0 rfl rfl 4 (by decide) (ht _ m_98) (fun _ h9 => h9) rfl d_Corrections_isStronger_23 ?_
    refine lv_iload_n hx hb d_Corrections_isStronger_26 rfl (lv_at hl 2 rfl) ?_
    refine sy_lald hx hb hK.1 hP 5 1 rfl rfl (k := b) (by omega) (by decide) d_Corrections_isStronger_27 ?_
    refine sy_lc_le (tgt := 36) hx hb d_Corrections_isStronger_28 d_Corrections_isStronger_29 (by decide) (fun c_3 => ?_) (fun c_3 => ?_)
    · have c_3n := sy_c64 c_3
      refine lv_iconst (v := 0) hx hb d_Corrections_isStronger_36 (by decide) ?_
      refine lv_goto (tgt := 61) hx hb d_Corrections_isStronger_37 (by decide) ?_
      exact W.zret (v := (0 : Int32)) hx hb hr (rfl) (fun t ht hW => ⟨(0 : Int32), rfl, by simp [bI, co_st, c_1, c_3, c_3n], ht⟩) (fun q h => by cases h) d_Corrections_isStronger_61
    · have c_3n := sy_d64 c_3
      refine lv_iconst (v := 1) hx hb d_Corrections_isStronger_32 (by decide) ?_
      refine lv_goto (tgt := 61) hx hb d_Corrections_isStronger_33 (by decide) ?_
      exact W.zret (v := (1 : Int32)) hx hb hr (rfl) (fun t ht hW => ⟨(1 : Int32), rfl, by simp [bI, co_st, c_1, c_3, c_3n], ht⟩) (fun q h => by cases h) d_Corrections_isStronger_61
set_option maxHeartbeats 4000000 in
set_option maxRecDepth 100000 in
theorem c_Corrections_latest (l : Launch) (G : sy_G) (h0 : Nat) (ad : Nat → Nat) (n : Nat) (fI : Nat → Nat → Int32) (fL : Nat → Nat → Int64) (am : Int64) (d : Int32) (kd : Int32) (se : Int64) (ao : Int64) (hn : n ≤ 20) : Met l y_Corrections_latest (sy_w y_Corrections_latest b_Corrections_latest 11 (some .int)) { frames := 2, cells := 0, slots := 0, locals := 42 } (va_Pc [.ref h0, .long am, .int d, .int kd, .long se, .long ao] (sy_KP G (va_P G.1 classes (cw G.2 h0 ad n fI fL)))) (vp_Si (fun r => r = oI (co_la fI fL n am d kd se ao))) 0 0 (fun _ => False) := by
  refine Met.ofW (cc := b_Corrections_latest) (maxL := 11) (ret := (some .int)) (by decide) rfl ?_
  intro p e s m args below meth c s₁ B hml hv
  obtain ⟨rfl, hP, hK⟩ := hv
  have hx := B.exec
  have hb := B.bytes
  have hr := B.returns
  have hts := atoms_spec (ws := sy_w y_Corrections_latest b_Corrections_latest 11 (some .int)) B.pre
  have ht : ∀ wd ∈ sy_T, wd.before ([.ref h0, .long am, .int d, .int kd, .long se, .long ao] : List Value).toArray s = true := fun wd h => hts wd (List.mem_cons_of_mem _ h)
  have hown : s.vm.findClass R_Corrections = some m.cls := findClass_of_methodNamed B.named
  have hlocks := B.notSynchronized
  have hl := lv_entry ([.ref h0, .long am, .int d, .int kd, .long se, .long ao]) (n := 11) (Nat.le_of_ble_eq_true rfl)
  rw [lg_entry_eq]
  generalize (lg_sl ([.ref h0, .long am, .int d, .int kd, .long se, .long ao]) ++ List.replicate (11 - (lg_sl ([.ref h0, .long am, .int d, .int kd, .long se, .long ao])).length) Slot.unset).toArray = ls at hl ⊢
  have hl : lv_has ls 11 [(0, .ref h0), (1, .long am), (3, .int d), (4, .int kd), (5, .long se), (7, .long ao)] := hl
  refine lv_iconst (v := (-1)) hx hb d_Corrections_latest_0 (by decide) ?_
  refine lv_istore (lv' := [(9, .int (-1)), (0, .ref h0), (1, .long am), (3, .int d), (4, .int kd), (5, .long se), (7, .long ao)]) hx hb d_Corrections_latest_1 hl (by decide) rfl (fun ls hl => ?_)
  refine lv_iconst (v := 0) hx hb d_Corrections_latest_3 (by decide) ?_
  refine lv_istore (lv' := [(10, .int 0), (9, .int (-1)), (0, .ref h0), (1, .long am), (3, .int d), (4, .int kd), (5, .long se), (7, .long ao)]) hx hb d_Corrections_latest_4 hl (by decide) rfl (fun ls hl => ?_)
  refine sy_loop (σ := Nat × Option Nat) (nL := 11) (fun x6 => match x6 with | (k, o) => n - k) (fun x6 => match x6 with | (k, o) => [(10, .int (nI k)), (9, .int (oI o)), (0, .ref h0), (1, .long am), (3, .int d), (4, .int kd), (5, .long se), (7, .long ao)]) (fun x6 => match x6 with | (k, o) => k ≤ n ∧ o = nn_fm (co_p fI fL am d kd se ao) (co_st fL) k) ?_ (0, none) ?_ (lv_sub hl [0, 1, 2, 3, 4, 5, 6, 7] rfl)
  · intro x6 ls hI hl ih6
    obtain ⟨k, o⟩ := x6
    have hl : lv_has ls 11 [(10, .int (nI k)), (9, .int (oI o)), (0, .ref h0), (1, .long am), (3, .int d), (4, .int kd), (5, .long se), (7, .long ao)] := hl
    obtain ⟨hk, hI⟩ := hI
    refine lv_iload hx hb d_Corrections_latest_6 (lv_at hl 0 rfl) ?_
    refine lv_aload_n hx hb d_Corrections_latest_8 rfl (lv_at hl 2 rfl) ?_
    refine va_get (D := G.1) (ci := 6) (v := .int (nI n)) (C := R_Corrections) (T := F_Corrections) (N := 6) hx hb ht i_Corrections hown hK.1 hP 0 rfl rfl 5 (by decide) (ht _ m_99) (fun _ h9 => h9) rfl d_Corrections_latest_9 ?_
    refine lv_icmp_ge (tgt := 78) hx hb d_Corrections_latest_12 (by decide) (fun c_1 => ?_) (fun c_1 => ?_)
    · have c_1 : n ≤ k := (nI_leI (a := n) (b := k) (by omega) (by omega)).mp c_1
      have c_1n : ¬ k < n := by omega
      refine lv_iload hx hb d_Corrections_latest_78 (lv_at hl 1 rfl) ?_
      exact W.iret (v := oI o) hx hb hr (fun t ht hW => ⟨oI o, rfl, by rw [hI, show k = n by omega] <;> rfl, ht⟩) (fun q h => by cases h) d_Corrections_latest_80
    · have c_1 : ¬ n ≤ k := fun h9 => c_1 ((nI_leI (a := n) (b := k) (by omega) (by omega)).mpr h9)
      have c_1n : k < n := by omega
      refine lv_iload hx hb d_Corrections_latest_15 (lv_at hl 0 rfl) ?_
      refine lv_lload_n hx hb d_Corrections_latest_17 rfl (lv_at hl 3 rfl) ?_
      refine vp_callSi (va_Run.run (sy_runSN (As := [.int (nI k), .long am]) (rest := []) ⟨hx, hb, hml, hown, ht⟩ cl_Corrections_36 (c_DeviceSets_isIn l G k am) hK trivial rfl nm_DeviceSets_isIn rfl rfl ⟨Nat.le_of_ble_eq_true rfl, Nat.le_of_ble_eq_true rfl⟩ hl.1 (Nat.le_of_ble_eq_true rfl) d_Corrections_latest_18 ⟨Nat.zero_le _, Nat.zero_le _⟩)) (fun r_2 hr_2 => ?_)
      subst hr_2
      refine lv_if_eq (tgt := 72) hx hb d_Corrections_latest_21 (by decide) (fun c_3 => ?_) (fun c_3 => ?_)
      · have c_3 : (bs_in am k) = false := bI_f c_3
        refine lv_iinc (v := nI (k + 1)) (lv' := [(10, .int (nI (k + 1))), (9, .int (oI o)), (0, .ref h0), (1, .long am), (3, .int d), (4, .int kd), (5, .long se), (7, .long ao)]) hx hb d_Corrections_latest_72 hl (k := 0) rfl (nI_add k 1) (by decide) rfl (fun ls hl => ?_)
        refine lv_goto (tgt := 6) hx hb d_Corrections_latest_75 (by decide) ?_
        refine ih6 (k + 1, o) ls (show n - (k + 1) < n - k by omega) ?_ (lv_sub hl [0, 1, 2, 3, 4, 5, 6, 7] rfl)
        exact ⟨by omega, by first | (rw [nn_fm, if_pos (by simp [co_p, c_1, c_1n, c_3]; done), ← hI]; simp [nn_up, co_p, c_1, c_1n, c_3]; done) | (rw [nn_fm, if_neg (by simp [co_p, c_1, c_1n, c_3]; done), ← hI])⟩
      · have c_3 : (bs_in am k) = true := bI_t c_3
        refine lv_aload_n hx hb d_Corrections_latest_24 rfl (lv_at hl 2 rfl) ?_
        refine lv_iload hx hb d_Corrections_latest_25 (lv_at hl 0 rfl) ?_
        refine lv_iload_n hx hb d_Corrections_latest_27 rfl (lv_at hl 4 rfl) ?_
        refine lv_iload hx hb d_Corrections_latest_28 (lv_at hl 5 rfl) ?_
        refine lv_lload hx hb d_Corrections_latest_30 (lv_at hl 6 rfl) ?_
        refine vp_callSi (va_Run.run (sy_runV (As := [.int (nI k), .int d, .int kd, .long se]) (rest := []) (b := h0) ⟨hx, hb, hml, hown, ht⟩ cl_Corrections_32 (c_Corrections_isFor l G h0 ad n fI fL k d kd se (by omega)) hK hP (va_recv hK.1 hP (ci := 6) (q0 := 0) rfl rfl) rfl nm_Corrections_isFor rfl rfl ⟨Nat.le_of_ble_eq_true rfl, Nat.le_of_ble_eq_true rfl⟩ hl.1 (Nat.le_of_ble_eq_true rfl) d_Corrections_latest_32 ⟨Nat.zero_le _, Nat.zero_le _⟩)) (fun r_4 hr_4 => ?_)
        subst hr_4
        refine lv_if_eq (tgt := 72) hx hb d_Corrections_latest_35 (by decide) (fun c_5 => ?_) (fun c_5 => ?_)
        · have c_5 : (co_for fI fL d kd se k) = false := bI_f c_5
          refine lv_iinc (v := nI (k + 1)) (lv' := [(10, .int (nI (k + 1))), (9, .int (oI o)), (0, .ref h0), (1, .long am), (3, .int d), (4, .int kd), (5, .long se), (7, .long ao)]) hx hb d_Corrections_latest_72 hl (k := 0) rfl (nI_add k 1) (by decide) rfl (fun ls hl => ?_)
          refine lv_goto (tgt := 6) hx hb d_Corrections_latest_75 (by decide) ?_
          refine ih6 (k + 1, o) ls (show n - (k + 1) < n - k by omega) ?_ (lv_sub hl [0, 1, 2, 3, 4, 5, 6, 7] rfl)
          exact ⟨by omega, by first | (rw [nn_fm, if_pos (by simp [co_p, c_1, c_1n, c_3, c_5]; done), ← hI]; simp [nn_up, co_p, c_1, c_1n, c_3, c_5]; done) | (rw [nn_fm, if_neg (by simp [co_p, c_1, c_1n, c_3, c_5]; done), ← hI])⟩
        · have c_5 : (co_for fI fL d kd se k) = true := bI_t c_5
          refine lv_aload_n hx hb d_Corrections_latest_38 rfl (lv_at hl 2 rfl) ?_
          refine va_get (D := G.1) (ci := 6) (v := .ref (ad 4)) (C := R_Corrections) (T := F_Corrections) (N := 6) hx hb ht i_Corrections hown hK.1 hP 0 rfl rfl 4 (by decide) (ht _ m_98) (fun _ h9 => h9) rfl d_Corrections_latest_39 ?_
          refine lv_iload hx hb d_Corrections_latest_42 (lv_at hl 0 rfl) ?_
          refine sy_lald hx hb hK.1 hP 5 1 rfl rfl (k := k) (by omega) (by decide) d_Corrections_latest_44 ?_
          refine lv_lload hx hb d_Corrections_latest_45 (lv_at hl 7 rfl) ?_
          refine sy_lc_gt (tgt := 72) hx hb d_Corrections_latest_47 d_Corrections_latest_48 (by decide) (fun c_6 => ?_) (fun c_6 => ?_)
          · have c_6n := sy_a64 c_6
            refine lv_iinc (v := nI (k + 1)) (lv' := [(10, .int (nI (k + 1))), (9, .int (oI o)), (0, .ref h0), (1, .long am), (3, .int d), (4, .int kd), (5, .long se), (7, .long ao)]) hx hb d_Corrections_latest_72 hl (k := 0) rfl (nI_add k 1) (by decide) rfl (fun ls hl => ?_)
            refine lv_goto (tgt := 6) hx hb d_Corrections_latest_75 (by decide) ?_
            refine ih6 (k + 1, o) ls (show n - (k + 1) < n - k by omega) ?_ (lv_sub hl [0, 1, 2, 3, 4, 5, 6, 7] rfl)
            exact ⟨by omega, by first | (rw [nn_fm, if_pos (by simp [co_p, c_1, c_1n, c_3, c_5, c_6, c_6n]; done), ← hI]; simp [nn_up, co_p, c_1, c_1n, c_3, c_5, c_6, c_6n]; done) | (rw [nn_fm, if_neg (by simp [co_p, c_1, c_1n, c_3, c_5, c_6, c_6n]; done), ← hI])⟩
          · have c_6n := sy_b64 c_6
            refine lv_iload hx hb d_Corrections_latest_51 (lv_at hl 1 rfl) ?_
            refine lv_iconst (v := (-1)) hx hb d_Corrections_latest_53 (by decide) ?_
            rcases o with _ | j_8
            · have hl : lv_has ls 11 [(10, .int (nI k)), (9, .int (-1)), (0, .ref h0), (1, .long am), (3, .int d), (4, .int kd), (5, .long se), (7, .long ao)] := hl
              refine lv_icmp_eq (tgt := 68) hx hb d_Corrections_latest_54 (by decide) (fun c_9 => ?_) (fun c_9 => absurd (by decide) c_9)
              refine lv_iload hx hb d_Corrections_latest_68 (lv_at hl 0 rfl) ?_
              refine lv_istore (lv' := [(9, .int (nI k)), (10, .int (nI k)), (0, .ref h0), (1, .long am), (3, .int d), (4, .int kd), (5, .long se), (7, .long ao)]) hx hb d_Corrections_latest_70 hl (by decide) rfl (fun ls hl => ?_)
              refine lv_iinc (v := nI (k + 1)) (lv' := [(10, .int (nI (k + 1))), (9, .int (nI k)), (0, .ref h0), (1, .long am), (3, .int d), (4, .int kd), (5, .long se), (7, .long ao)]) hx hb d_Corrections_latest_72 hl (k := 1) rfl (nI_add k 1) (by decide) rfl (fun ls hl => ?_)
              refine lv_goto (tgt := 6) hx hb d_Corrections_latest_75 (by decide) ?_
              refine ih6 (k + 1, (some k)) ls (show n - (k + 1) < n - k by omega) ?_ (lv_sub hl [0, 1, 2, 3, 4, 5, 6, 7] rfl)
              exact ⟨by omega, by first | (rw [nn_fm, if_pos (by simp [co_p, c_1, c_1n, c_3, c_5, c_6, c_6n, c_9]; done), ← hI]; simp [nn_up, co_p, c_1, c_1n, c_3, c_5, c_6, c_6n, c_9]; done) | (rw [nn_fm, if_neg (by simp [co_p, c_1, c_1n, c_3, c_5, c_6, c_6n, c_9]; done), ← hI])⟩
            · have hl : lv_has ls 11 [(10, .int (nI k)), (9, .int (nI j_8)), (0, .ref h0), (1, .long am), (3, .int d), (4, .int kd), (5, .long se), (7, .long ao)] := hl
              have hj_8 : j_8 < k := nn_fm_lt hI.symm
              refine lv_icmp_eq (tgt := 68) hx hb d_Corrections_latest_54 (by decide) (fun c_10 => absurd c_10 (oI_ne (by omega))) (fun c_10 => ?_)
              refine lv_aload_n hx hb d_Corrections_latest_57 rfl (lv_at hl 2 rfl) ?_
              refine lv_iload hx hb d_Corrections_latest_58 (lv_at hl 0 rfl) ?_
              refine lv_iload hx hb d_Corrections_latest_60 (lv_at hl 1 rfl) ?_
              refine vp_callSi (va_Run.run (sy_runV (As := [.int (nI k), .int (nI j_8)]) (rest := []) (b := h0) ⟨hx, hb, hml, hown, ht⟩ cl_Corrections_40 (c_Corrections_isStronger l G h0 ad n fI fL k j_8 (by omega) (by omega)) hK hP (va_recv hK.1 hP (ci := 6) (q0 := 0) rfl rfl) rfl nm_Corrections_isStronger rfl rfl ⟨Nat.le_of_ble_eq_true rfl, Nat.le_of_ble_eq_true rfl⟩ hl.1 (Nat.le_of_ble_eq_true rfl) d_Corrections_latest_62 ⟨Nat.zero_le _, Nat.zero_le _⟩)) (fun r_11 hr_11 => ?_)
              subst hr_11
              refine lv_if_eq (tgt := 72) hx hb d_Corrections_latest_65 (by decide) (fun c_12 => ?_) (fun c_12 => ?_)
              · have c_12 : (co_st fL k j_8) = false := bI_f c_12
                refine lv_iinc (v := nI (k + 1)) (lv' := [(10, .int (nI (k + 1))), (9, .int (nI j_8)), (0, .ref h0), (1, .long am), (3, .int d), (4, .int kd), (5, .long se), (7, .long ao)]) hx hb d_Corrections_latest_72 hl (k := 0) rfl (nI_add k 1) (by decide) rfl (fun ls hl => ?_)
                refine lv_goto (tgt := 6) hx hb d_Corrections_latest_75 (by decide) ?_
                refine ih6 (k + 1, (some j_8)) ls (show n - (k + 1) < n - k by omega) ?_ (lv_sub hl [0, 1, 2, 3, 4, 5, 6, 7] rfl)
                exact ⟨by omega, by first | (rw [nn_fm, if_pos (by simp [co_p, c_1, c_1n, c_3, c_5, c_6, c_6n, c_10, c_12]; done), ← hI]; simp [nn_up, co_p, c_1, c_1n, c_3, c_5, c_6, c_6n, c_10, c_12]; done) | (rw [nn_fm, if_neg (by simp [co_p, c_1, c_1n, c_3, c_5, c_6, c_6n, c_10, c_12]; done), ← hI])⟩
              · have c_12 : (co_st fL k j_8) = true := bI_t c_12
                refine lv_iload hx hb d_Corrections_latest_68 (lv_at hl 0 rfl) ?_
                refine lv_istore (lv' := [(9, .int (nI k)), (10, .int (nI k)), (0, .ref h0), (1, .long am), (3, .int d), (4, .int kd), (5, .long se), (7, .long ao)]) hx hb d_Corrections_latest_70 hl (by decide) rfl (fun ls hl => ?_)
                refine lv_iinc (v := nI (k + 1)) (lv' := [(10, .int (nI (k + 1))), (9, .int (nI k)), (0, .ref h0), (1, .long am), (3, .int d), (4, .int kd), (5, .long se), (7, .long ao)]) hx hb d_Corrections_latest_72 hl (k := 1) rfl (nI_add k 1) (by decide) rfl (fun ls hl => ?_)
                refine lv_goto (tgt := 6) hx hb d_Corrections_latest_75 (by decide) ?_
                refine ih6 (k + 1, (some k)) ls (show n - (k + 1) < n - k by omega) ?_ (lv_sub hl [0, 1, 2, 3, 4, 5, 6, 7] rfl)
                exact ⟨by omega, by first | (rw [nn_fm, if_pos (by simp [co_p, c_1, c_1n, c_3, c_5, c_6, c_6n, c_10, c_12]; done), ← hI]; simp [nn_up, co_p, c_1, c_1n, c_3, c_5, c_6, c_6n, c_10, c_12]; done) | (rw [nn_fm, if_neg (by simp [co_p, c_1, c_1n, c_3, c_5, c_6, c_6n, c_10, c_12]; done), ← hI])⟩
  · exact ⟨Nat.zero_le _, rfl⟩
set_option maxHeartbeats 4000000 in
set_option maxRecDepth 100000 in
theorem c_Clock_isBetween (l : Launch) (G : sy_G) (h0 : Nat) (ad : Nat → Nat) (n : Nat) (fL : Nat → Nat → Int64) (o : Option Nat) (hn : n ≤ 10) (ho : ∀ j, o = some j → j < n) : Met l y_Clock_isBetween (sy_w y_Clock_isBetween b_Clock_isBetween 2 (some .boolean)) { frames := 0, cells := 0, slots := 0, locals := 0 } (va_Pc [.ref h0, .int (oI o)] (sy_KP G (va_P G.1 classes (kw G.2 h0 ad n fL)))) (vp_Si (fun r => r = bI (ck_bt n o))) 0 0 (fun _ => False) := by
  refine Met.ofW (cc := b_Clock_isBetween) (maxL := 2) (ret := (some .boolean)) (by decide) rfl ?_
  intro p e s m args below meth c s₁ B hml hv
  obtain ⟨rfl, hP, hK⟩ := hv
  have hx := B.exec
  have hb := B.bytes
  have hr := B.returns
  have hts := atoms_spec (ws := sy_w y_Clock_isBetween b_Clock_isBetween 2 (some .boolean)) B.pre
  have ht : ∀ wd ∈ sy_T, wd.before ([.ref h0, .int (oI o)] : List Value).toArray s = true := fun wd h => hts wd (List.mem_cons_of_mem _ h)
  have hown : s.vm.findClass R_Clock = some m.cls := findClass_of_methodNamed B.named
  have hlocks := B.notSynchronized
  have hl := lv_entry ([.ref h0, .int (oI o)]) (n := 2) (Nat.le_of_ble_eq_true rfl)
  rw [lg_entry_eq]
  generalize (lg_sl ([.ref h0, .int (oI o)]) ++ List.replicate (2 - (lg_sl ([.ref h0, .int (oI o)])).length) Slot.unset).toArray = ls at hl ⊢
  have hl : lv_has ls 2 [(0, .ref h0), (1, .int (oI o))] := hl
  refine lv_iload_n hx hb d_Clock_isBetween_0 rfl (lv_at hl 1 rfl) ?_
  rcases o with _ | j_1
  · have hl : lv_has ls 2 [(0, .ref h0), (1, .int (-1))] := hl
    refine lv_if_lt (tgt := 18) hx hb d_Clock_isBetween_1 (by decide) (fun c_2 => ?_) (fun c_2 => absurd (by decide) c_2)
    refine lv_iconst (v := 0) hx hb d_Clock_isBetween_18 (by decide) ?_
    exact W.zret (v := (0 : Int32)) hx hb hr (rfl) (fun t ht hW => ⟨(0 : Int32), rfl, by first | (simp [bI, ck_bt, c_2]; done) | (simp [bI, ck_bt, c_2]; omega), ht⟩) (fun q h => by cases h) d_Clock_isBetween_19
  · have hl : lv_has ls 2 [(0, .ref h0), (1, .int (nI j_1))] := hl
    have hj_1 := ho j_1 rfl
    refine lv_if_lt (tgt := 18) hx hb d_Clock_isBetween_1 (by decide) (fun c_3 => absurd c_3 (nI_pos (by omega))) (fun c_3 => ?_)
    refine lv_iload_n hx hb d_Clock_isBetween_4 rfl (lv_at hl 1 rfl) ?_
    refine lv_aload_n hx hb d_Clock_isBetween_5 rfl (lv_at hl 0 rfl) ?_
    refine va_get (D := G.1) (ci := 2) (v := .int (nI n)) (C := R_Clock) (T := F_Clock) (N := 3) hx hb ht i_Clock hown hK.1 hP 0 rfl rfl 2 (by decide) (ht _ m_152) (fun _ h9 => h9) rfl d_Clock_isBetween_6 ?_
    refine lv_iconst (v := 1) hx hb d_Clock_isBetween_9 (by decide) ?_
    refine lv_isub hx hb d_Clock_isBetween_10 ?_
    refine sy_ti (y := nI (n - 1)) (pk_sub (a := n) (b := 1) (by omega)) ?_
    refine lv_icmp_ge (tgt := 18) hx hb d_Clock_isBetween_11 (by decide) (fun c_4 => ?_) (fun c_4 => ?_)
    · have c_4 : (n - 1) ≤ j_1 := (nI_leI (a := n - 1) (b := j_1) (by omega) (by omega)).mp c_4
      have c_4n : ¬ j_1 < (n - 1) := by omega
      refine lv_iconst (v := 0) hx hb d_Clock_isBetween_18 (by decide) ?_
      exact W.zret (v := (0 : Int32)) hx hb hr (rfl) (fun t ht hW => ⟨(0 : Int32), rfl, by first | (simp [bI, ck_bt, c_3, c_4, c_4n]; done) | (simp [bI, ck_bt, c_3, c_4, c_4n]; omega), ht⟩) (fun q h => by cases h) d_Clock_isBetween_19
    · have c_4 : ¬ (n - 1) ≤ j_1 := fun h9 => c_4 ((nI_leI (a := n - 1) (b := j_1) (by omega) (by omega)).mpr h9)
      have c_4n : j_1 < (n - 1) := by omega
      refine lv_iconst (v := 1) hx hb d_Clock_isBetween_14 (by decide) ?_
      refine lv_goto (tgt := 19) hx hb d_Clock_isBetween_15 (by decide) ?_
      exact W.zret (v := (1 : Int32)) hx hb hr (rfl) (fun t ht hW => ⟨(1 : Int32), rfl, by first | (simp [bI, ck_bt, c_3, c_4, c_4n]; done) | (simp [bI, ck_bt, c_3, c_4, c_4n]; omega), ht⟩) (fun q h => by cases h) d_Clock_isBetween_19
set_option maxHeartbeats 4000000 in
set_option maxRecDepth 100000 in
theorem c_Clock_markBefore (l : Launch) (G : sy_G) (h0 : Nat) (ad : Nat → Nat) (n : Nat) (fL : Nat → Nat → Int64) (x : Int64) (hn : n ≤ 10) : Met l y_Clock_markBefore (sy_w y_Clock_markBefore b_Clock_markBefore 5 (some .int)) { frames := 0, cells := 0, slots := 0, locals := 0 } (va_Pc [.ref h0, .long x] (sy_KP G (va_P G.1 classes (kw G.2 h0 ad n fL)))) (vp_Si (fun r => r = oI (ck_mb fL n x))) 0 0 (fun _ => False) := by
  refine Met.ofW (cc := b_Clock_markBefore) (maxL := 5) (ret := (some .int)) (by decide) rfl ?_
  intro p e s m args below meth c s₁ B hml hv
  obtain ⟨rfl, hP, hK⟩ := hv
  have hx := B.exec
  have hb := B.bytes
  have hr := B.returns
  have hts := atoms_spec (ws := sy_w y_Clock_markBefore b_Clock_markBefore 5 (some .int)) B.pre
  have ht : ∀ wd ∈ sy_T, wd.before ([.ref h0, .long x] : List Value).toArray s = true := fun wd h => hts wd (List.mem_cons_of_mem _ h)
  have hown : s.vm.findClass R_Clock = some m.cls := findClass_of_methodNamed B.named
  have hlocks := B.notSynchronized
  have hl := lv_entry ([.ref h0, .long x]) (n := 5) (Nat.le_of_ble_eq_true rfl)
  rw [lg_entry_eq]
  generalize (lg_sl ([.ref h0, .long x]) ++ List.replicate (5 - (lg_sl ([.ref h0, .long x])).length) Slot.unset).toArray = ls at hl ⊢
  have hl : lv_has ls 5 [(0, .ref h0), (1, .long x)] := hl
  refine lv_iconst (v := (-1)) hx hb d_Clock_markBefore_0 (by decide) ?_
  refine lv_istore_n (lv' := [(3, .int (-1)), (0, .ref h0), (1, .long x)]) hx hb d_Clock_markBefore_1 rfl hl (by decide) rfl (fun ls hl => ?_)
  refine lv_iconst (v := 0) hx hb d_Clock_markBefore_2 (by decide) ?_
  refine lv_istore (lv' := [(4, .int 0), (3, .int (-1)), (0, .ref h0), (1, .long x)]) hx hb d_Clock_markBefore_3 hl (by decide) rfl (fun ls hl => ?_)
  refine sy_loop (σ := Nat × Option Nat) (nL := 5) (fun x5 => match x5 with | (k, o) => n - k) (fun x5 => match x5 with | (k, o) => [(4, .int (nI k)), (3, .int (oI o)), (0, .ref h0), (1, .long x)]) (fun x5 => match x5 with | (k, o) => k ≤ n ∧ o = nn_fl (ck_p fL x) k) ?_ (0, none) ?_ (lv_sub hl [0, 1, 2, 3] rfl)
  · intro x5 ls hI hl ih5
    obtain ⟨k, o⟩ := x5
    have hl : lv_has ls 5 [(4, .int (nI k)), (3, .int (oI o)), (0, .ref h0), (1, .long x)] := hl
    obtain ⟨hk, hI⟩ := hI
    refine lv_iload hx hb d_Clock_markBefore_5 (lv_at hl 0 rfl) ?_
    refine lv_aload_n hx hb d_Clock_markBefore_7 rfl (lv_at hl 2 rfl) ?_
    refine va_get (D := G.1) (ci := 2) (v := .int (nI n)) (C := R_Clock) (T := F_Clock) (N := 3) hx hb ht i_Clock hown hK.1 hP 0 rfl rfl 2 (by decide) (ht _ m_152) (fun _ h9 => h9) rfl d_Clock_markBefore_8 ?_
    refine lv_icmp_ge (tgt := 35) hx hb d_Clock_markBefore_11 (by decide) (fun c_1 => ?_) (fun c_1 => ?_)
    · have c_1 : n ≤ k := (nI_leI (a := n) (b := k) (by omega) (by omega)).mp c_1
      have c_1n : ¬ k < n := by omega
      refine lv_iload_n hx hb d_Clock_markBefore_35 rfl (lv_at hl 1 rfl) ?_
      exact W.iret (v := oI o) hx hb hr (fun t ht hW => ⟨oI o, rfl, by rw [hI, show k = n by omega] <;> rfl, ht⟩) (fun q h => by cases h) d_Clock_markBefore_36
    · have c_1 : ¬ n ≤ k := fun h9 => c_1 ((nI_leI (a := n) (b := k) (by omega) (by omega)).mpr h9)
      have c_1n : k < n := by omega
      refine lv_aload_n hx hb d_Clock_markBefore_14 rfl (lv_at hl 2 rfl) ?_
      refine va_get (D := G.1) (ci := 2) (v := .ref (ad 0)) (C := R_Clock) (T := F_Clock) (N := 3) hx hb ht i_Clock hown hK.1 hP 0 rfl rfl 0 (by decide) (ht _ m_150) (fun _ h9 => h9) rfl d_Clock_markBefore_15 ?_
      refine lv_iload hx hb d_Clock_markBefore_18 (lv_at hl 0 rfl) ?_
      refine sy_lald hx hb hK.1 hP 1 1 rfl rfl (k := k) (by omega) (by decide) d_Clock_markBefore_20 ?_
      refine lv_lload_n hx hb d_Clock_markBefore_21 rfl (lv_at hl 3 rfl) ?_
      refine sy_lc_gt (tgt := 29) hx hb d_Clock_markBefore_22 d_Clock_markBefore_23 (by decide) (fun c_2 => ?_) (fun c_2 => ?_)
      · have c_2n := sy_a64 c_2
        refine lv_iinc (v := nI (k + 1)) (lv' := [(4, .int (nI (k + 1))), (3, .int (oI o)), (0, .ref h0), (1, .long x)]) hx hb d_Clock_markBefore_29 hl (k := 0) rfl (nI_add k 1) (by decide) rfl (fun ls hl => ?_)
        refine lv_goto (tgt := 5) hx hb d_Clock_markBefore_32 (by decide) ?_
        refine ih5 (k + 1, o) ls (show n - (k + 1) < n - k by omega) ?_ (lv_sub hl [0, 1, 2, 3] rfl)
        exact ⟨by omega, by first | (rw [nn_fl, if_pos (by simp [ck_p, c_1, c_1n, c_2, c_2n]; done)]; done) | (rw [nn_fl, if_neg (by simp [ck_p, c_1, c_1n, c_2, c_2n]; done), ← hI])⟩
      · have c_2n := sy_b64 c_2
        refine lv_iload hx hb d_Clock_markBefore_26 (lv_at hl 0 rfl) ?_
        refine lv_istore_n (lv' := [(3, .int (nI k)), (4, .int (nI k)), (0, .ref h0), (1, .long x)]) hx hb d_Clock_markBefore_28 rfl hl (by decide) rfl (fun ls hl => ?_)
        refine lv_iinc (v := nI (k + 1)) (lv' := [(4, .int (nI (k + 1))), (3, .int (nI k)), (0, .ref h0), (1, .long x)]) hx hb d_Clock_markBefore_29 hl (k := 1) rfl (nI_add k 1) (by decide) rfl (fun ls hl => ?_)
        refine lv_goto (tgt := 5) hx hb d_Clock_markBefore_32 (by decide) ?_
        refine ih5 (k + 1, (some k)) ls (show n - (k + 1) < n - k by omega) ?_ (lv_sub hl [0, 1, 2, 3] rfl)
        exact ⟨by omega, by first | (rw [nn_fl, if_pos (by simp [ck_p, c_1, c_1n, c_2, c_2n]; done)]; done) | (rw [nn_fl, if_neg (by simp [ck_p, c_1, c_1n, c_2, c_2n]; done), ← hI])⟩
  · exact ⟨Nat.zero_le _, rfl⟩
set_option maxHeartbeats 4000000 in
set_option maxRecDepth 100000 in
theorem c_Tellings_nextNumber (l : Launch) (G : sy_G) (h0 : Nat) (ad : Nat → Nat) (n : Nat) (fI : Nat → Nat → Int32) (fL : Nat → Nat → Int64) (am : Int64) (af : Int32) (hn : n ≤ 60) : Met l y_Tellings_nextNumber (sy_w y_Tellings_nextNumber b_Tellings_nextNumber 6 (some .int)) { frames := 2, cells := 0, slots := 0, locals := 42 } (va_Pc [.ref h0, .long am, .int af] (sy_KP G (va_P G.1 classes (tw G.2 h0 ad n fI fL)))) (vp_Si (fun r => r = tl_nx fI am af n)) 0 0 (fun _ => False) := by
  refine Met.ofW (cc := b_Tellings_nextNumber) (maxL := 6) (ret := (some .int)) (by decide) rfl ?_
  intro p e s m args below meth c s₁ B hml hv
  obtain ⟨rfl, hP, hK⟩ := hv
  have hx := B.exec
  have hb := B.bytes
  have hr := B.returns
  have hts := atoms_spec (ws := sy_w y_Tellings_nextNumber b_Tellings_nextNumber 6 (some .int)) B.pre
  have ht : ∀ wd ∈ sy_T, wd.before ([.ref h0, .long am, .int af] : List Value).toArray s = true := fun wd h => hts wd (List.mem_cons_of_mem _ h)
  have hown : s.vm.findClass R_Tellings = some m.cls := findClass_of_methodNamed B.named
  have hlocks := B.notSynchronized
  have hl := lv_entry ([.ref h0, .long am, .int af]) (n := 6) (Nat.le_of_ble_eq_true rfl)
  rw [lg_entry_eq]
  generalize (lg_sl ([.ref h0, .long am, .int af]) ++ List.replicate (6 - (lg_sl ([.ref h0, .long am, .int af])).length) Slot.unset).toArray = ls at hl ⊢
  have hl : lv_has ls 6 [(0, .ref h0), (1, .long am), (3, .int af)] := hl
  refine lv_iconst (v := (-1)) hx hb d_Tellings_nextNumber_0 (by decide) ?_
  refine lv_istore (lv' := [(4, .int (-1)), (0, .ref h0), (1, .long am), (3, .int af)]) hx hb d_Tellings_nextNumber_1 hl (by decide) rfl (fun ls hl => ?_)
  refine lv_iconst (v := 0) hx hb d_Tellings_nextNumber_3 (by decide) ?_
  refine lv_istore (lv' := [(5, .int 0), (4, .int (-1)), (0, .ref h0), (1, .long am), (3, .int af)]) hx hb d_Tellings_nextNumber_4 hl (by decide) rfl (fun ls hl => ?_)
  refine sy_loop (σ := Nat × Int32) (nL := 6) (fun x6 => match x6 with | (k, f) => n - k) (fun x6 => match x6 with | (k, f) => [(5, .int (nI k)), (4, .int f), (0, .ref h0), (1, .long am), (3, .int af)]) (fun x6 => match x6 with | (k, f) => k ≤ n ∧ f = tl_nx fI am af k) ?_ (0, (-1 : Int32)) ?_ (lv_sub hl [0, 1, 2, 3, 4] rfl)
  · intro x6 ls hI hl ih6
    obtain ⟨k, f⟩ := x6
    have hl : lv_has ls 6 [(5, .int (nI k)), (4, .int f), (0, .ref h0), (1, .long am), (3, .int af)] := hl
    obtain ⟨hk, hI⟩ := hI
    refine lv_iload hx hb d_Tellings_nextNumber_6 (lv_at hl 0 rfl) ?_
    refine lv_aload_n hx hb d_Tellings_nextNumber_8 rfl (lv_at hl 2 rfl) ?_
    refine va_get (D := G.1) (ci := 5) (v := .int (nI n)) (C := R_Tellings) (T := F_Tellings) (N := 8) hx hb ht i_Tellings hown hK.1 hP 0 rfl rfl 7 (by decide) (ht _ m_67) (fun _ h9 => h9) rfl d_Tellings_nextNumber_9 ?_
    refine lv_icmp_ge (tgt := 68) hx hb d_Tellings_nextNumber_12 (by decide) (fun c_1 => ?_) (fun c_1 => ?_)
    · have c_1 : n ≤ k := (nI_leI (a := n) (b := k) (by omega) (by omega)).mp c_1
      have c_1n : ¬ k < n := by omega
      refine lv_iload hx hb d_Tellings_nextNumber_68 (lv_at hl 1 rfl) ?_
      exact W.iret (v := f) hx hb hr (fun t ht hW => ⟨f, rfl, by rw [hI, show k = n by omega], ht⟩) (fun q h => by cases h) d_Tellings_nextNumber_70
    · have c_1 : ¬ n ≤ k := fun h9 => c_1 ((nI_leI (a := n) (b := k) (by omega) (by omega)).mpr h9)
      have c_1n : k < n := by omega
      refine lv_iload hx hb d_Tellings_nextNumber_15 (lv_at hl 0 rfl) ?_
      refine lv_lload_n hx hb d_Tellings_nextNumber_17 rfl (lv_at hl 3 rfl) ?_
      refine vp_callSi (va_Run.run (sy_runSN (As := [.int (nI k), .long am]) (rest := []) ⟨hx, hb, hml, hown, ht⟩ cl_Tellings_42 (c_DeviceSets_isIn l G k am) hK trivial rfl nm_DeviceSets_isIn rfl rfl ⟨Nat.le_of_ble_eq_true rfl, Nat.le_of_ble_eq_true rfl⟩ hl.1 (Nat.le_of_ble_eq_true rfl) d_Tellings_nextNumber_18 ⟨Nat.zero_le _, Nat.zero_le _⟩)) (fun r_2 hr_2 => ?_)
      subst hr_2
      refine lv_if_eq (tgt := 62) hx hb d_Tellings_nextNumber_21 (by decide) (fun c_3 => ?_) (fun c_3 => ?_)
      · have c_3 : (bs_in am k) = false := bI_f c_3
        refine lv_iinc (v := nI (k + 1)) (lv' := [(5, .int (nI (k + 1))), (4, .int f), (0, .ref h0), (1, .long am), (3, .int af)]) hx hb d_Tellings_nextNumber_62 hl (k := 0) rfl (nI_add k 1) (by decide) rfl (fun ls hl => ?_)
        refine lv_goto (tgt := 6) hx hb d_Tellings_nextNumber_65 (by decide) ?_
        refine ih6 (k + 1, f) ls (show n - (k + 1) < n - k by omega) ?_ (lv_sub hl [0, 1, 2, 3, 4] rfl)
        exact ⟨by omega, by first | (rw [tl_nx, if_pos (by simp [← hI, c_1, c_1n, c_3]; done)]; done) | (rw [tl_nx, if_neg (by simp [← hI, c_1, c_1n, c_3]; done), ← hI])⟩
      · have c_3 : (bs_in am k) = true := bI_t c_3
        refine lv_aload_n hx hb d_Tellings_nextNumber_24 rfl (lv_at hl 2 rfl) ?_
        refine va_get (D := G.1) (ci := 5) (v := .ref (ad 2)) (C := R_Tellings) (T := F_Tellings) (N := 8) hx hb ht i_Tellings hown hK.1 hP 0 rfl rfl 2 (by decide) (ht _ m_60) (fun _ h9 => h9) rfl d_Tellings_nextNumber_25 ?_
        refine lv_iload hx hb d_Tellings_nextNumber_28 (lv_at hl 0 rfl) ?_
        refine sy_iald hx hb hK.1 hP 3 0 rfl rfl (k := k) (by omega) (by decide) d_Tellings_nextNumber_30 ?_
        refine lv_iload_n hx hb d_Tellings_nextNumber_31 rfl (lv_at hl 4 rfl) ?_
        refine lv_icmp_le (tgt := 62) hx hb d_Tellings_nextNumber_32 (by decide) (fun c_4 => ?_) (fun c_4 => ?_)
        · have c_4n := sy_c32 c_4
          refine lv_iinc (v := nI (k + 1)) (lv' := [(5, .int (nI (k + 1))), (4, .int f), (0, .ref h0), (1, .long am), (3, .int af)]) hx hb d_Tellings_nextNumber_62 hl (k := 0) rfl (nI_add k 1) (by decide) rfl (fun ls hl => ?_)
          refine lv_goto (tgt := 6) hx hb d_Tellings_nextNumber_65 (by decide) ?_
          refine ih6 (k + 1, f) ls (show n - (k + 1) < n - k by omega) ?_ (lv_sub hl [0, 1, 2, 3, 4] rfl)
          exact ⟨by omega, by first | (rw [tl_nx, if_pos (by simp [← hI, c_1, c_1n, c_3, c_4, c_4n]; done)]; done) | (rw [tl_nx, if_neg (by simp [← hI, c_1, c_1n, c_3, c_4, c_4n]; done), ← hI])⟩
        · have c_4n := sy_d32 c_4
          refine lv_iload hx hb d_Tellings_nextNumber_35 (lv_at hl 1 rfl) ?_
          refine lv_iconst (v := (-1)) hx hb d_Tellings_nextNumber_37 (by decide) ?_
          refine lv_icmp_eq (tgt := 53) hx hb d_Tellings_nextNumber_38 (by decide) (fun c_5 => ?_) (fun c_5 => ?_)
          · refine lv_aload_n hx hb d_Tellings_nextNumber_53 rfl (lv_at hl 2 rfl) ?_
            refine va_get (D := G.1) (ci := 5) (v := .ref (ad 2)) (C := R_Tellings) (T := F_Tellings) (N := 8) hx hb ht i_Tellings hown hK.1 hP 0 rfl rfl 2 (by decide) (ht _ m_60) (fun _ h9 => h9) rfl d_Tellings_nextNumber_54 ?_
            refine lv_iload hx hb d_Tellings_nextNumber_57 (lv_at hl 0 rfl) ?_
            refine sy_iald hx hb hK.1 hP 3 0 rfl rfl (k := k) (by omega) (by decide) d_Tellings_nextNumber_59 ?_
            refine lv_istore (lv' := [(4, .int (fI 2 k)), (5, .int (nI k)), (0, .ref h0), (1, .long am), (3, .int af)]) hx hb d_Tellings_nextNumber_60 hl (by decide) rfl (fun ls hl => ?_)
            refine lv_iinc (v := nI (k + 1)) (lv' := [(5, .int (nI (k + 1))), (4, .int (fI 2 k)), (0, .ref h0), (1, .long am), (3, .int af)]) hx hb d_Tellings_nextNumber_62 hl (k := 1) rfl (nI_add k 1) (by decide) rfl (fun ls hl => ?_)
            refine lv_goto (tgt := 6) hx hb d_Tellings_nextNumber_65 (by decide) ?_
            refine ih6 (k + 1, fI 2 k) ls (show n - (k + 1) < n - k by omega) ?_ (lv_sub hl [0, 1, 2, 3, 4] rfl)
            exact ⟨by omega, by first | (rw [tl_nx, if_pos (by simp [← hI, c_1, c_1n, c_3, c_4, c_4n, c_5]; done)]; done) | (rw [tl_nx, if_neg (by simp [← hI, c_1, c_1n, c_3, c_4, c_4n, c_5]; done), ← hI])⟩
          · refine lv_aload_n hx hb d_Tellings_nextNumber_41 rfl (lv_at hl 2 rfl) ?_
            refine va_get (D := G.1) (ci := 5) (v := .ref (ad 2)) (C := R_Tellings) (T := F_Tellings) (N := 8) hx hb ht i_Tellings hown hK.1 hP 0 rfl rfl 2 (by decide) (ht _ m_60) (fun _ h9 => h9) rfl d_Tellings_nextNumber_42 ?_
            refine lv_iload hx hb d_Tellings_nextNumber_45 (lv_at hl 0 rfl) ?_
            refine sy_iald hx hb hK.1 hP 3 0 rfl rfl (k := k) (by omega) (by decide) d_Tellings_nextNumber_47 ?_
            refine lv_iload hx hb d_Tellings_nextNumber_48 (lv_at hl 1 rfl) ?_
            refine lv_icmp_ge (tgt := 62) hx hb d_Tellings_nextNumber_50 (by decide) (fun c_6 => ?_) (fun c_6 => ?_)
            · have c_6n := sy_c32 c_6
              refine lv_iinc (v := nI (k + 1)) (lv' := [(5, .int (nI (k + 1))), (4, .int f), (0, .ref h0), (1, .long am), (3, .int af)]) hx hb d_Tellings_nextNumber_62 hl (k := 0) rfl (nI_add k 1) (by decide) rfl (fun ls hl => ?_)
              refine lv_goto (tgt := 6) hx hb d_Tellings_nextNumber_65 (by decide) ?_
              refine ih6 (k + 1, f) ls (show n - (k + 1) < n - k by omega) ?_ (lv_sub hl [0, 1, 2, 3, 4] rfl)
              exact ⟨by omega, by first | (rw [tl_nx, if_pos (by simp [← hI, c_1, c_1n, c_3, c_4, c_4n, c_5, c_6, c_6n]; done)]; done) | (rw [tl_nx, if_neg (by simp [← hI, c_1, c_1n, c_3, c_4, c_4n, c_5, c_6, c_6n]; done), ← hI])⟩
            · have c_6n := sy_d32 c_6
              refine lv_aload_n hx hb d_Tellings_nextNumber_53 rfl (lv_at hl 2 rfl) ?_
              refine va_get (D := G.1) (ci := 5) (v := .ref (ad 2)) (C := R_Tellings) (T := F_Tellings) (N := 8) hx hb ht i_Tellings hown hK.1 hP 0 rfl rfl 2 (by decide) (ht _ m_60) (fun _ h9 => h9) rfl d_Tellings_nextNumber_54 ?_
              refine lv_iload hx hb d_Tellings_nextNumber_57 (lv_at hl 0 rfl) ?_
              refine sy_iald hx hb hK.1 hP 3 0 rfl rfl (k := k) (by omega) (by decide) d_Tellings_nextNumber_59 ?_
              refine lv_istore (lv' := [(4, .int (fI 2 k)), (5, .int (nI k)), (0, .ref h0), (1, .long am), (3, .int af)]) hx hb d_Tellings_nextNumber_60 hl (by decide) rfl (fun ls hl => ?_)
              refine lv_iinc (v := nI (k + 1)) (lv' := [(5, .int (nI (k + 1))), (4, .int (fI 2 k)), (0, .ref h0), (1, .long am), (3, .int af)]) hx hb d_Tellings_nextNumber_62 hl (k := 1) rfl (nI_add k 1) (by decide) rfl (fun ls hl => ?_)
              refine lv_goto (tgt := 6) hx hb d_Tellings_nextNumber_65 (by decide) ?_
              refine ih6 (k + 1, fI 2 k) ls (show n - (k + 1) < n - k by omega) ?_ (lv_sub hl [0, 1, 2, 3, 4] rfl)
              exact ⟨by omega, by first | (rw [tl_nx, if_pos (by simp [← hI, c_1, c_1n, c_3, c_4, c_4n, c_5, c_6, c_6n]; done)]; done) | (rw [tl_nx, if_neg (by simp [← hI, c_1, c_1n, c_3, c_4, c_4n, c_5, c_6, c_6n]; done), ← hI])⟩
  · exact ⟨Nat.zero_le _, rfl⟩
set_option maxHeartbeats 4000000 in
set_option maxRecDepth 100000 in
theorem c_Tellings_ofGreatestLife (l : Launch) (G : sy_G) (h0 : Nat) (ad : Nat → Nat) (n : Nat) (fI : Nat → Nat → Int32) (fL : Nat → Nat → Int64) (am : Int64) (hn : n ≤ 60) : Met l y_Tellings_ofGreatestLife (sy_w y_Tellings_ofGreatestLife b_Tellings_ofGreatestLife 7 (some .long)) { frames := 2, cells := 0, slots := 0, locals := 42 } (va_Pc [.ref h0, .long am] (sy_KP G (va_P G.1 classes (tw G.2 h0 ad n fI fL)))) (vp_Sl (fun r => r = (tl_gl fI am n).2)) 0 0 (fun _ => False) := by
  refine Met.ofW (cc := b_Tellings_ofGreatestLife) (maxL := 7) (ret := (some .long)) (by decide) rfl ?_
  intro p e s m args below meth c s₁ B hml hv
  obtain ⟨rfl, hP, hK⟩ := hv
  have hx := B.exec
  have hb := B.bytes
  have hr := B.returns
  have hts := atoms_spec (ws := sy_w y_Tellings_ofGreatestLife b_Tellings_ofGreatestLife 7 (some .long)) B.pre
  have ht : ∀ wd ∈ sy_T, wd.before ([.ref h0, .long am] : List Value).toArray s = true := fun wd h => hts wd (List.mem_cons_of_mem _ h)
  have hown : s.vm.findClass R_Tellings = some m.cls := findClass_of_methodNamed B.named
  have hlocks := B.notSynchronized
  have hl := lv_entry ([.ref h0, .long am]) (n := 7) (Nat.le_of_ble_eq_true rfl)
  rw [lg_entry_eq]
  generalize (lg_sl ([.ref h0, .long am]) ++ List.replicate (7 - (lg_sl ([.ref h0, .long am])).length) Slot.unset).toArray = ls at hl ⊢
  have hl : lv_has ls 7 [(0, .ref h0), (1, .long am)] := hl
  refine lv_iconst (v := (-1)) hx hb d_Tellings_ofGreatestLife_0 (by decide) ?_
  refine lv_istore_n (lv' := [(3, .int (-1)), (0, .ref h0), (1, .long am)]) hx hb d_Tellings_ofGreatestLife_1 rfl hl (by decide) rfl (fun ls hl => ?_)
  refine lv_lconst (v := 0) hx hb d_Tellings_ofGreatestLife_2 (by decide) ?_
  refine lv_lstore (lv' := [(4, .long 0), (3, .int (-1)), (0, .ref h0), (1, .long am)]) hx hb d_Tellings_ofGreatestLife_3 hl (by decide) rfl (fun ls hl => ?_)
  refine lv_iconst (v := 0) hx hb d_Tellings_ofGreatestLife_5 (by decide) ?_
  refine lv_istore (lv' := [(6, .int 0), (4, .long 0), (3, .int (-1)), (0, .ref h0), (1, .long am)]) hx hb d_Tellings_ofGreatestLife_6 hl (by decide) rfl (fun ls hl => ?_)
  refine sy_loop (σ := Nat × Int32 × Int64) (nL := 7) (fun x8 => match x8 with | (k, g, f) => n - k) (fun x8 => match x8 with | (k, g, f) => [(6, .int (nI k)), (3, .int g), (4, .long f), (0, .ref h0), (1, .long am)]) (fun x8 => match x8 with | (k, g, f) => k ≤ n ∧ (g, f) = tl_gl fI am k) ?_ (0, (-1 : Int32), (0 : Int64)) ?_ (lv_sub hl [0, 2, 1, 3, 4] rfl)
  · intro x8 ls hI hl ih8
    obtain ⟨k, g, f⟩ := x8
    have hl : lv_has ls 7 [(6, .int (nI k)), (3, .int g), (4, .long f), (0, .ref h0), (1, .long am)] := hl
    obtain ⟨hk, hI⟩ := hI
    refine lv_iload hx hb d_Tellings_ofGreatestLife_8 (lv_at hl 0 rfl) ?_
    refine lv_aload_n hx hb d_Tellings_ofGreatestLife_10 rfl (lv_at hl 3 rfl) ?_
    refine va_get (D := G.1) (ci := 5) (v := .int (nI n)) (C := R_Tellings) (T := F_Tellings) (N := 8) hx hb ht i_Tellings hown hK.1 hP 0 rfl rfl 7 (by decide) (ht _ m_67) (fun _ h9 => h9) rfl d_Tellings_ofGreatestLife_11 ?_
    refine lv_icmp_ge (tgt := 84) hx hb d_Tellings_ofGreatestLife_14 (by decide) (fun c_1 => ?_) (fun c_1 => ?_)
    · have c_1 : n ≤ k := (nI_leI (a := n) (b := k) (by omega) (by omega)).mp c_1
      have c_1n : ¬ k < n := by omega
      refine lv_lload hx hb d_Tellings_ofGreatestLife_84 (lv_at hl 2 rfl) ?_
      exact W.lret (v := f) hx hb hr (fun t ht hW => ⟨f, rfl, by rw [← show k = n by omega, ← hI], ht⟩) (fun q h => by cases h) d_Tellings_ofGreatestLife_86
    · have c_1 : ¬ n ≤ k := fun h9 => c_1 ((nI_leI (a := n) (b := k) (by omega) (by omega)).mpr h9)
      have c_1n : k < n := by omega
      refine lv_iload hx hb d_Tellings_ofGreatestLife_17 (lv_at hl 0 rfl) ?_
      refine lv_lload_n hx hb d_Tellings_ofGreatestLife_19 rfl (lv_at hl 4 rfl) ?_
      refine vp_callSi (va_Run.run (sy_runSN (As := [.int (nI k), .long am]) (rest := []) ⟨hx, hb, hml, hown, ht⟩ cl_Tellings_42 (c_DeviceSets_isIn l G k am) hK trivial rfl nm_DeviceSets_isIn rfl rfl ⟨Nat.le_of_ble_eq_true rfl, Nat.le_of_ble_eq_true rfl⟩ hl.1 (Nat.le_of_ble_eq_true rfl) d_Tellings_ofGreatestLife_20 ⟨Nat.zero_le _, Nat.zero_le _⟩)) (fun r_2 hr_2 => ?_)
      subst hr_2
      refine lv_if_eq (tgt := 48) hx hb d_Tellings_ofGreatestLife_23 (by decide) (fun c_3 => ?_) (fun c_3 => ?_)
      · have c_3 : (bs_in am k) = false := bI_f c_3
        refine lv_iload hx hb d_Tellings_ofGreatestLife_48 (lv_at hl 0 rfl) ?_
        refine lv_lload_n hx hb d_Tellings_ofGreatestLife_50 rfl (lv_at hl 4 rfl) ?_
        refine vp_callSi (va_Run.run (sy_runSN (As := [.int (nI k), .long am]) (rest := []) ⟨hx, hb, hml, hown, ht⟩ cl_Tellings_42 (c_DeviceSets_isIn l G k am) hK trivial rfl nm_DeviceSets_isIn rfl rfl ⟨Nat.le_of_ble_eq_true rfl, Nat.le_of_ble_eq_true rfl⟩ hl.1 (Nat.le_of_ble_eq_true rfl) d_Tellings_ofGreatestLife_51 ⟨Nat.zero_le _, Nat.zero_le _⟩)) (fun r_4 hr_4 => ?_)
        subst hr_4
        refine lv_if_eq (tgt := 78) hx hb d_Tellings_ofGreatestLife_54 (by decide) (fun c_5 => ?_) (fun c_5 => absurd (bI_t c_5) (by rw [c_3]; decide))
        refine lv_iinc (v := nI (k + 1)) (lv' := [(6, .int (nI (k + 1))), (3, .int g), (4, .long f), (0, .ref h0), (1, .long am)]) hx hb d_Tellings_ofGreatestLife_78 hl (k := 0) rfl (nI_add k 1) (by decide) rfl (fun ls hl => ?_)
        refine lv_goto (tgt := 8) hx hb d_Tellings_ofGreatestLife_81 (by decide) ?_
        refine ih8 (k + 1, g, f) ls (show n - (k + 1) < n - k by omega) ?_ (lv_sub hl [0, 1, 2, 3, 4] rfl)
        exact ⟨by omega, by rw [tl_gl, ← hI]; simp [c_1, c_1n, c_3, c_5]⟩
      · have c_3 : (bs_in am k) = true := bI_t c_3
        refine lv_aload_n hx hb d_Tellings_ofGreatestLife_26 rfl (lv_at hl 3 rfl) ?_
        refine va_get (D := G.1) (ci := 5) (v := .ref (ad 1)) (C := R_Tellings) (T := F_Tellings) (N := 8) hx hb ht i_Tellings hown hK.1 hP 0 rfl rfl 1 (by decide) (ht _ m_59) (fun _ h9 => h9) rfl d_Tellings_ofGreatestLife_27 ?_
        refine lv_iload hx hb d_Tellings_ofGreatestLife_30 (lv_at hl 0 rfl) ?_
        refine sy_iald hx hb hK.1 hP 2 0 rfl rfl (k := k) (by omega) (by decide) d_Tellings_ofGreatestLife_32 ?_
        refine lv_iload_n hx hb d_Tellings_ofGreatestLife_33 rfl (lv_at hl 1 rfl) ?_
        refine lv_icmp_le (tgt := 48) hx hb d_Tellings_ofGreatestLife_34 (by decide) (fun c_6 => ?_) (fun c_6 => ?_)
        · have c_6n := sy_c32 c_6
          refine lv_iload hx hb d_Tellings_ofGreatestLife_48 (lv_at hl 0 rfl) ?_
          refine lv_lload_n hx hb d_Tellings_ofGreatestLife_50 rfl (lv_at hl 4 rfl) ?_
          refine vp_callSi (va_Run.run (sy_runSN (As := [.int (nI k), .long am]) (rest := []) ⟨hx, hb, hml, hown, ht⟩ cl_Tellings_42 (c_DeviceSets_isIn l G k am) hK trivial rfl nm_DeviceSets_isIn rfl rfl ⟨Nat.le_of_ble_eq_true rfl, Nat.le_of_ble_eq_true rfl⟩ hl.1 (Nat.le_of_ble_eq_true rfl) d_Tellings_ofGreatestLife_51 ⟨Nat.zero_le _, Nat.zero_le _⟩)) (fun r_7 hr_7 => ?_)
          subst hr_7
          refine lv_if_eq (tgt := 78) hx hb d_Tellings_ofGreatestLife_54 (by decide) (fun c_8 => absurd (bI_f c_8) (by rw [c_3]; decide)) (fun c_8 => ?_)
          refine lv_aload_n hx hb d_Tellings_ofGreatestLife_57 rfl (lv_at hl 3 rfl) ?_
          refine va_get (D := G.1) (ci := 5) (v := .ref (ad 1)) (C := R_Tellings) (T := F_Tellings) (N := 8) hx hb ht i_Tellings hown hK.1 hP 0 rfl rfl 1 (by decide) (ht _ m_59) (fun _ h9 => h9) rfl d_Tellings_ofGreatestLife_58 ?_
          refine lv_iload hx hb d_Tellings_ofGreatestLife_61 (lv_at hl 0 rfl) ?_
          refine sy_iald hx hb hK.1 hP 2 0 rfl rfl (k := k) (by omega) (by decide) d_Tellings_ofGreatestLife_63 ?_
          refine lv_iload_n hx hb d_Tellings_ofGreatestLife_64 rfl (lv_at hl 1 rfl) ?_
          refine lv_icmp_ne (tgt := 78) hx hb d_Tellings_ofGreatestLife_65 (by decide) (fun c_9 => ?_) (fun c_9 => ?_)
          · refine lv_iinc (v := nI (k + 1)) (lv' := [(6, .int (nI (k + 1))), (3, .int g), (4, .long f), (0, .ref h0), (1, .long am)]) hx hb d_Tellings_ofGreatestLife_78 hl (k := 0) rfl (nI_add k 1) (by decide) rfl (fun ls hl => ?_)
            refine lv_goto (tgt := 8) hx hb d_Tellings_ofGreatestLife_81 (by decide) ?_
            refine ih8 (k + 1, g, f) ls (show n - (k + 1) < n - k by omega) ?_ (lv_sub hl [0, 1, 2, 3, 4] rfl)
            exact ⟨by omega, by rw [tl_gl, ← hI]; simp [c_1, c_1n, c_3, c_6, c_6n, c_8, c_9]⟩
          · refine lv_lload hx hb d_Tellings_ofGreatestLife_68 (lv_at hl 2 rfl) ?_
            refine lv_iload hx hb d_Tellings_ofGreatestLife_70 (lv_at hl 0 rfl) ?_
            refine vp_callSl (va_Run.run (sy_runSN (As := [.int (nI k)]) (rest := [.long f]) ⟨hx, hb, hml, hown, ht⟩ cl_Tellings_38 (c_DeviceSets_bit l G k) hK trivial rfl nm_DeviceSets_bit rfl rfl ⟨Nat.le_of_ble_eq_true rfl, Nat.le_of_ble_eq_true rfl⟩ hl.1 (Nat.le_of_ble_eq_true rfl) d_Tellings_ofGreatestLife_72 ⟨Nat.zero_le _, Nat.zero_le _⟩)) (fun r_10 hr_10 => ?_)
            subst hr_10
            refine lv_lor hx hb d_Tellings_ofGreatestLife_75 ?_
            refine lv_lstore (lv' := [(4, .long (f ||| (bs_b k))), (6, .int (nI k)), (3, .int g), (0, .ref h0), (1, .long am)]) hx hb d_Tellings_ofGreatestLife_76 hl (by decide) rfl (fun ls hl => ?_)
            refine lv_iinc (v := nI (k + 1)) (lv' := [(6, .int (nI (k + 1))), (4, .long (f ||| (bs_b k))), (3, .int g), (0, .ref h0), (1, .long am)]) hx hb d_Tellings_ofGreatestLife_78 hl (k := 1) rfl (nI_add k 1) (by decide) rfl (fun ls hl => ?_)
            refine lv_goto (tgt := 8) hx hb d_Tellings_ofGreatestLife_81 (by decide) ?_
            refine ih8 (k + 1, g, f ||| (bs_b k)) ls (show n - (k + 1) < n - k by omega) ?_ (lv_sub hl [0, 2, 1, 3, 4] rfl)
            exact ⟨by omega, by rw [tl_gl, ← hI]; simp [c_1, c_1n, c_3, c_6, c_6n, c_8, c_9]⟩
        · have c_6n := sy_d32 c_6
          refine lv_aload_n hx hb d_Tellings_ofGreatestLife_37 rfl (lv_at hl 3 rfl) ?_
          refine va_get (D := G.1) (ci := 5) (v := .ref (ad 1)) (C := R_Tellings) (T := F_Tellings) (N := 8) hx hb ht i_Tellings hown hK.1 hP 0 rfl rfl 1 (by decide) (ht _ m_59) (fun _ h9 => h9) rfl d_Tellings_ofGreatestLife_38 ?_
          refine lv_iload hx hb d_Tellings_ofGreatestLife_41 (lv_at hl 0 rfl) ?_
          refine sy_iald hx hb hK.1 hP 2 0 rfl rfl (k := k) (by omega) (by decide) d_Tellings_ofGreatestLife_43 ?_
          refine lv_istore_n (lv' := [(3, .int (fI 1 k)), (6, .int (nI k)), (4, .long f), (0, .ref h0), (1, .long am)]) hx hb d_Tellings_ofGreatestLife_44 rfl hl (by decide) rfl (fun ls hl => ?_)
          refine lv_lconst (v := 0) hx hb d_Tellings_ofGreatestLife_45 (by decide) ?_
          refine lv_lstore (lv' := [(4, .long 0), (3, .int (fI 1 k)), (6, .int (nI k)), (0, .ref h0), (1, .long am)]) hx hb d_Tellings_ofGreatestLife_46 hl (by decide) rfl (fun ls hl => ?_)
          refine lv_iload hx hb d_Tellings_ofGreatestLife_48 (lv_at hl 2 rfl) ?_
          refine lv_lload_n hx hb d_Tellings_ofGreatestLife_50 rfl (lv_at hl 4 rfl) ?_
          refine vp_callSi (va_Run.run (sy_runSN (As := [.int (nI k), .long am]) (rest := []) ⟨hx, hb, hml, hown, ht⟩ cl_Tellings_42 (c_DeviceSets_isIn l G k am) hK trivial rfl nm_DeviceSets_isIn rfl rfl ⟨Nat.le_of_ble_eq_true rfl, Nat.le_of_ble_eq_true rfl⟩ hl.1 (Nat.le_of_ble_eq_true rfl) d_Tellings_ofGreatestLife_51 ⟨Nat.zero_le _, Nat.zero_le _⟩)) (fun r_11 hr_11 => ?_)
          subst hr_11
          refine lv_if_eq (tgt := 78) hx hb d_Tellings_ofGreatestLife_54 (by decide) (fun c_12 => absurd (bI_f c_12) (by rw [c_3]; decide)) (fun c_12 => ?_)
          refine lv_aload_n hx hb d_Tellings_ofGreatestLife_57 rfl (lv_at hl 3 rfl) ?_
          refine va_get (D := G.1) (ci := 5) (v := .ref (ad 1)) (C := R_Tellings) (T := F_Tellings) (N := 8) hx hb ht i_Tellings hown hK.1 hP 0 rfl rfl 1 (by decide) (ht _ m_59) (fun _ h9 => h9) rfl d_Tellings_ofGreatestLife_58 ?_
          refine lv_iload hx hb d_Tellings_ofGreatestLife_61 (lv_at hl 2 rfl) ?_
          refine sy_iald hx hb hK.1 hP 2 0 rfl rfl (k := k) (by omega) (by decide) d_Tellings_ofGreatestLife_63 ?_
          refine lv_iload_n hx hb d_Tellings_ofGreatestLife_64 rfl (lv_at hl 1 rfl) ?_
          refine lv_icmp_ne (tgt := 78) hx hb d_Tellings_ofGreatestLife_65 (by decide) (fun c_13 => absurd rfl c_13) (fun c_13 => ?_)
          refine lv_lload hx hb d_Tellings_ofGreatestLife_68 (lv_at hl 0 rfl) ?_
          refine lv_iload hx hb d_Tellings_ofGreatestLife_70 (lv_at hl 2 rfl) ?_
          refine vp_callSl (va_Run.run (sy_runSN (As := [.int (nI k)]) (rest := [.long 0]) ⟨hx, hb, hml, hown, ht⟩ cl_Tellings_38 (c_DeviceSets_bit l G k) hK trivial rfl nm_DeviceSets_bit rfl rfl ⟨Nat.le_of_ble_eq_true rfl, Nat.le_of_ble_eq_true rfl⟩ hl.1 (Nat.le_of_ble_eq_true rfl) d_Tellings_ofGreatestLife_72 ⟨Nat.zero_le _, Nat.zero_le _⟩)) (fun r_14 hr_14 => ?_)
          subst hr_14
          refine lv_lor hx hb d_Tellings_ofGreatestLife_75 ?_
          refine lv_lstore (lv' := [(4, .long (0 ||| (bs_b k))), (3, .int (fI 1 k)), (6, .int (nI k)), (0, .ref h0), (1, .long am)]) hx hb d_Tellings_ofGreatestLife_76 hl (by decide) rfl (fun ls hl => ?_)
          refine lv_iinc (v := nI (k + 1)) (lv' := [(6, .int (nI (k + 1))), (4, .long (0 ||| (bs_b k))), (3, .int (fI 1 k)), (0, .ref h0), (1, .long am)]) hx hb d_Tellings_ofGreatestLife_78 hl (k := 2) rfl (nI_add k 1) (by decide) rfl (fun ls hl => ?_)
          refine lv_goto (tgt := 8) hx hb d_Tellings_ofGreatestLife_81 (by decide) ?_
          refine ih8 (k + 1, fI 1 k, 0 ||| (bs_b k)) ls (show n - (k + 1) < n - k by omega) ?_ (lv_sub hl [0, 2, 1, 3, 4] rfl)
          exact ⟨by omega, by rw [tl_gl, ← hI]; simp [c_1, c_1n, c_3, c_6, c_6n, c_12, c_13]⟩
  · exact ⟨Nat.zero_le _, rfl⟩
set_option maxHeartbeats 4000000 in
set_option maxRecDepth 100000 in
theorem c_Tellings_keyPart (l : Launch) (G : sy_G) (h0 : Nat) (ad : Nat → Nat) (n : Nat) (fI : Nat → Nat → Int32) (fL : Nat → Nat → Int64) (j : Nat) (wt : Int32) (hj : j < 60) : Met l y_Tellings_keyPart (sy_w y_Tellings_keyPart b_Tellings_keyPart 3 (some .int)) { frames := 0, cells := 0, slots := 0, locals := 0 } (va_Pc [.ref h0, .int (nI j), .int wt] (sy_KP G (va_P G.1 classes (tw G.2 h0 ad n fI fL)))) (vp_Si (fun r => r = tl_part fI wt j)) 0 0 (fun _ => False) := by
  refine Met.ofW (cc := b_Tellings_keyPart) (maxL := 3) (ret := (some .int)) (by decide) rfl ?_
  intro p e s m args below meth c s₁ B hml hv
  obtain ⟨rfl, hP, hK⟩ := hv
  have hx := B.exec
  have hb := B.bytes
  have hr := B.returns
  have hts := atoms_spec (ws := sy_w y_Tellings_keyPart b_Tellings_keyPart 3 (some .int)) B.pre
  have ht : ∀ wd ∈ sy_T, wd.before ([.ref h0, .int (nI j), .int wt] : List Value).toArray s = true := fun wd h => hts wd (List.mem_cons_of_mem _ h)
  have hown : s.vm.findClass R_Tellings = some m.cls := findClass_of_methodNamed B.named
  have hlocks := B.notSynchronized
  have hl := lv_entry ([.ref h0, .int (nI j), .int wt]) (n := 3) (Nat.le_of_ble_eq_true rfl)
  rw [lg_entry_eq]
  generalize (lg_sl ([.ref h0, .int (nI j), .int wt]) ++ List.replicate (3 - (lg_sl ([.ref h0, .int (nI j), .int wt])).length) Slot.unset).toArray = ls at hl ⊢
  have hl : lv_has ls 3 [(0, .ref h0), (1, .int (nI j)), (2, .int wt)] := hl
  refine lv_iload_n hx hb d_Tellings_keyPart_0 rfl (lv_at hl 2 rfl) ?_
  rcases Decidable.em (wt = 0) with hs_1 | hs_1
  · subst hs_1
    refine lv_tableIn (off := 31) (tgt := 32) hx hb d_Tellings_keyPart_1 (by decide) (by decide) rfl (by decide) ?_
    refine lv_aload_n hx hb d_Tellings_keyPart_32 rfl (lv_at hl 0 rfl) ?_
    refine va_get (D := G.1) (ci := 5) (v := .ref (ad 0)) (C := R_Tellings) (T := F_Tellings) (N := 8) hx hb ht i_Tellings hown hK.1 hP 0 rfl rfl 0 (by decide) (ht _ m_58) (fun _ h9 => h9) rfl d_Tellings_keyPart_33 ?_
    refine lv_iload_n hx hb d_Tellings_keyPart_36 rfl (lv_at hl 1 rfl) ?_
    refine sy_iald hx hb hK.1 hP 1 0 rfl rfl (k := j) (by omega) (by decide) d_Tellings_keyPart_37 ?_
    exact W.iret (v := fI 0 j) hx hb hr (fun t ht hW => ⟨fI 0 j, rfl, by simp [tl_part, ], ht⟩) (fun q h => by cases h) d_Tellings_keyPart_38
  · rcases Decidable.em (wt = 1) with hs_2 | hs_2
    · subst hs_2
      refine lv_tableIn (off := 38) (tgt := 39) hx hb d_Tellings_keyPart_1 (by decide) (by decide) rfl (by decide) ?_
      refine lv_aload_n hx hb d_Tellings_keyPart_39 rfl (lv_at hl 0 rfl) ?_
      refine va_get (D := G.1) (ci := 5) (v := .ref (ad 1)) (C := R_Tellings) (T := F_Tellings) (N := 8) hx hb ht i_Tellings hown hK.1 hP 0 rfl rfl 1 (by decide) (ht _ m_59) (fun _ h9 => h9) rfl d_Tellings_keyPart_40 ?_
      refine lv_iload_n hx hb d_Tellings_keyPart_43 rfl (lv_at hl 1 rfl) ?_
      refine sy_iald hx hb hK.1 hP 2 0 rfl rfl (k := j) (by omega) (by decide) d_Tellings_keyPart_44 ?_
      exact W.iret (v := fI 1 j) hx hb hr (fun t ht hW => ⟨fI 1 j, rfl, by simp [tl_part, hs_1], ht⟩) (fun q h => by cases h) d_Tellings_keyPart_45
    · rcases Decidable.em (wt = 2) with hs_3 | hs_3
      · subst hs_3
        refine lv_tableIn (off := 45) (tgt := 46) hx hb d_Tellings_keyPart_1 (by decide) (by decide) rfl (by decide) ?_
        refine lv_aload_n hx hb d_Tellings_keyPart_46 rfl (lv_at hl 0 rfl) ?_
        refine va_get (D := G.1) (ci := 5) (v := .ref (ad 2)) (C := R_Tellings) (T := F_Tellings) (N := 8) hx hb ht i_Tellings hown hK.1 hP 0 rfl rfl 2 (by decide) (ht _ m_60) (fun _ h9 => h9) rfl d_Tellings_keyPart_47 ?_
        refine lv_iload_n hx hb d_Tellings_keyPart_50 rfl (lv_at hl 1 rfl) ?_
        refine sy_iald hx hb hK.1 hP 3 0 rfl rfl (k := j) (by omega) (by decide) d_Tellings_keyPart_51 ?_
        exact W.iret (v := fI 2 j) hx hb hr (fun t ht hW => ⟨fI 2 j, rfl, by simp [tl_part, hs_1, hs_2], ht⟩) (fun q h => by cases h) d_Tellings_keyPart_52
      · rcases Decidable.em (wt = 3) with hs_4 | hs_4
        · subst hs_4
          refine lv_tableIn (off := 52) (tgt := 53) hx hb d_Tellings_keyPart_1 (by decide) (by decide) rfl (by decide) ?_
          refine lv_aload_n hx hb d_Tellings_keyPart_53 rfl (lv_at hl 0 rfl) ?_
          refine va_get (D := G.1) (ci := 5) (v := .ref (ad 3)) (C := R_Tellings) (T := F_Tellings) (N := 8) hx hb ht i_Tellings hown hK.1 hP 0 rfl rfl 3 (by decide) (ht _ m_61) (fun _ h9 => h9) rfl d_Tellings_keyPart_54 ?_
          refine lv_iload_n hx hb d_Tellings_keyPart_57 rfl (lv_at hl 1 rfl) ?_
          refine sy_iald hx hb hK.1 hP 4 0 rfl rfl (k := j) (by omega) (by decide) d_Tellings_keyPart_58 ?_
          exact W.iret (v := fI 3 j) hx hb hr (fun t ht hW => ⟨fI 3 j, rfl, by simp [tl_part, hs_1, hs_2, hs_3], ht⟩) (fun q h => by cases h) d_Tellings_keyPart_59
        · have hs_1t := lv_neT hs_1 (show (0 : Int32).toInt = 0 by decide)
          have hs_2t := lv_neT hs_2 (show (1 : Int32).toInt = 1 by decide)
          have hs_3t := lv_neT hs_3 (show (2 : Int32).toInt = 2 by decide)
          have hs_4t := lv_neT hs_4 (show (3 : Int32).toInt = 3 by decide)
          refine lv_tableOut (tgt := 60) hx hb d_Tellings_keyPart_1 (by omega) (by decide) ?_
          refine lv_iconst (v := (-1)) hx hb d_Tellings_keyPart_60 (by decide) ?_
          exact W.iret (v := (-1 : Int32)) hx hb hr (fun t ht hW => ⟨(-1 : Int32), rfl, by simp [tl_part, hs_1, hs_2, hs_3, hs_4], ht⟩) (fun q h => by cases h) d_Tellings_keyPart_61
set_option maxHeartbeats 4000000 in
set_option maxRecDepth 100000 in
theorem c_Clock_denominator (l : Launch) (G : sy_G) (h0 : Nat) (ad : Nat → Nat) (n : Nat) (fL : Nat → Nat → Int64) (x : Int64) (hn : n ≤ 10) : Met l y_Clock_denominator (sy_w y_Clock_denominator b_Clock_denominator 4 (some .long)) { frames := 1, cells := 0, slots := 0, locals := 24 } (va_Pc [.ref h0, .long x] (sy_KP G (va_P G.1 classes (kw G.2 h0 ad n fL)))) (vp_Sl (fun r => r = ck_den fL n x)) 0 0 (fun _ => False) := by
  refine Met.ofW (cc := b_Clock_denominator) (maxL := 4) (ret := (some .long)) (by decide) rfl ?_
  intro p e s m args below meth c s₁ B hml hv
  obtain ⟨rfl, hP, hK⟩ := hv
  have hx := B.exec
  have hb := B.bytes
  have hr := B.returns
  have hts := atoms_spec (ws := sy_w y_Clock_denominator b_Clock_denominator 4 (some .long)) B.pre
  have ht : ∀ wd ∈ sy_T, wd.before ([.ref h0, .long x] : List Value).toArray s = true := fun wd h => hts wd (List.mem_cons_of_mem _ h)
  have hown : s.vm.findClass R_Clock = some m.cls := findClass_of_methodNamed B.named
  have hlocks := B.notSynchronized
  have hl := lv_entry ([.ref h0, .long x]) (n := 4) (Nat.le_of_ble_eq_true rfl)
  rw [lg_entry_eq]
  generalize (lg_sl ([.ref h0, .long x]) ++ List.replicate (4 - (lg_sl ([.ref h0, .long x])).length) Slot.unset).toArray = ls at hl ⊢
  have hl : lv_has ls 4 [(0, .ref h0), (1, .long x)] := hl
  refine lv_aload_n hx hb d_Clock_denominator_0 rfl (lv_at hl 0 rfl) ?_
  refine lv_lload_n hx hb d_Clock_denominator_1 rfl (lv_at hl 1 rfl) ?_
  refine vp_callSi (va_Run.run (sy_runV (As := [.long x]) (rest := []) (b := h0) ⟨hx, hb, hml, hown, ht⟩ cl_Clock_22 (c_Clock_markBefore l G h0 ad n fL x (by omega)) hK hP (va_recv hK.1 hP (ci := 2) (q0 := 0) rfl rfl) rfl nm_Clock_markBefore rfl rfl ⟨Nat.le_of_ble_eq_true rfl, Nat.le_of_ble_eq_true rfl⟩ hl.1 (Nat.le_of_ble_eq_true rfl) d_Clock_denominator_2 ⟨Nat.zero_le _, Nat.zero_le _⟩)) (fun r_1 hr_1 => ?_)
  obtain ⟨o_2, ho_2, hr_1⟩ := sy_opt hr_1
  subst hr_1
  refine lv_istore_n (lv' := [(3, .int (oI o_2)), (0, .ref h0), (1, .long x)]) hx hb d_Clock_denominator_5 rfl hl (by decide) rfl (fun ls hl => ?_)
  refine lv_aload_n hx hb d_Clock_denominator_6 rfl (lv_at hl 1 rfl) ?_
  refine lv_iload_n hx hb d_Clock_denominator_7 rfl (lv_at hl 0 rfl) ?_
  refine vp_callSi (va_Run.run (sy_runV (As := [.int (oI o_2)]) (rest := []) (b := h0) ⟨hx, hb, hml, hown, ht⟩ cl_Clock_26 (c_Clock_isBetween l G h0 ad n fL o_2 (by omega) (fun j9 h9 => nn_fl_lt (h9 ▸ ho_2).symm)) hK hP (va_recv hK.1 hP (ci := 2) (q0 := 0) rfl rfl) rfl nm_Clock_isBetween rfl rfl ⟨Nat.le_of_ble_eq_true rfl, Nat.le_of_ble_eq_true rfl⟩ hl.1 (Nat.le_of_ble_eq_true rfl) d_Clock_denominator_8 ⟨Nat.zero_le _, Nat.zero_le _⟩)) (fun r_3 hr_3 => ?_)
  subst hr_3
  refine lv_if_eq (tgt := 32) hx hb d_Clock_denominator_11 (by decide) (fun c_4 => ?_) (fun c_4 => ?_)
  · have c_4 : (ck_bt n o_2) = false := bI_f c_4
    refine lv_lconst (v := 1) hx hb d_Clock_denominator_32 (by decide) ?_
    exact W.lret (v := (1 : Int64)) hx hb hr (fun t ht hW => ⟨(1 : Int64), rfl, by first | (simp [ck_den, ck_dv, ← ho_2, c_4]; done) | (rw [ck_den, ← ho_2]; rcases o_2 with _ | j9; rfl; have h9 := c_4; simp [ck_bt] at h9; simp only [ck_dv]; rw [if_neg (by omega)]), ht⟩) (fun q h => by cases h) d_Clock_denominator_33
  · have c_4 : (ck_bt n o_2) = true := bI_t c_4
    obtain ⟨jb_5, hjb_5, ejb_5⟩ := ck_bt_t c_4
    subst ejb_5
    have hl : lv_has ls 4 [(3, .int (nI jb_5)), (0, .ref h0), (1, .long x)] := hl
    refine lv_aload_n hx hb d_Clock_denominator_14 rfl (lv_at hl 1 rfl) ?_
    refine va_get (D := G.1) (ci := 2) (v := .ref (ad 0)) (C := R_Clock) (T := F_Clock) (N := 3) hx hb ht i_Clock hown hK.1 hP 0 rfl rfl 0 (by decide) (ht _ m_150) (fun _ h9 => h9) rfl d_Clock_denominator_15 ?_
    refine lv_iload_n hx hb d_Clock_denominator_18 rfl (lv_at hl 0 rfl) ?_
    refine lv_iconst (v := 1) hx hb d_Clock_denominator_19 (by decide) ?_
    refine lv_iadd hx hb d_Clock_denominator_20 ?_
    refine sy_ti (y := nI (jb_5 + 1)) (nI_add jb_5 1) ?_
    refine sy_lald hx hb hK.1 hP 1 1 rfl rfl (k := jb_5 + 1) (by omega) (by decide) d_Clock_denominator_21 ?_
    refine lv_aload_n hx hb d_Clock_denominator_22 rfl (lv_at hl 1 rfl) ?_
    refine va_get (D := G.1) (ci := 2) (v := .ref (ad 0)) (C := R_Clock) (T := F_Clock) (N := 3) hx hb ht i_Clock hown hK.1 hP 0 rfl rfl 0 (by decide) (ht _ m_150) (fun _ h9 => h9) rfl d_Clock_denominator_23 ?_
    refine lv_iload_n hx hb d_Clock_denominator_26 rfl (lv_at hl 0 rfl) ?_
    refine sy_lald hx hb hK.1 hP 1 1 rfl rfl (k := jb_5) (by omega) (by decide) d_Clock_denominator_27 ?_
    refine lv_lsub hx hb d_Clock_denominator_28 ?_
    refine lv_goto (tgt := 33) hx hb d_Clock_denominator_29 (by decide) ?_
    exact W.lret (v := (fL 0 (jb_5 + 1)) - (fL 0 jb_5)) hx hb hr (fun t ht hW => ⟨(fL 0 (jb_5 + 1)) - (fL 0 jb_5), rfl, by first | (simp [ck_den, ck_dv, ← ho_2, c_4, hjb_5]; done) | (rw [ck_den, ← ho_2]; rcases o_2 with _ | j9; rfl; have h9 := hjb_5; simp [ck_bt] at h9; simp only [ck_dv]; rw [if_neg (by omega)]), ht⟩) (fun q h => by cases h) d_Clock_denominator_33
set_option maxHeartbeats 4000000 in
set_option maxRecDepth 100000 in
theorem c_Clock_numerator (l : Launch) (G : sy_G) (h0 : Nat) (ad : Nat → Nat) (n : Nat) (fL : Nat → Nat → Int64) (x : Int64) (hn : n ≤ 10) : Met l y_Clock_numerator (sy_w y_Clock_numerator b_Clock_numerator 8 (some .long)) { frames := 1, cells := 0, slots := 0, locals := 24 } (va_Pc [.ref h0, .long x] (sy_KP G (va_P G.1 classes (kw G.2 h0 ad n fL)))) (vp_Sl (fun r => r = ck_num fL n x)) 0 0 (fun _ => False) := by
  refine Met.ofW (cc := b_Clock_numerator) (maxL := 8) (ret := (some .long)) (by decide) rfl ?_
  intro p e s m args below meth c s₁ B hml hv
  obtain ⟨rfl, hP, hK⟩ := hv
  have hx := B.exec
  have hb := B.bytes
  have hr := B.returns
  have hts := atoms_spec (ws := sy_w y_Clock_numerator b_Clock_numerator 8 (some .long)) B.pre
  have ht : ∀ wd ∈ sy_T, wd.before ([.ref h0, .long x] : List Value).toArray s = true := fun wd h => hts wd (List.mem_cons_of_mem _ h)
  have hown : s.vm.findClass R_Clock = some m.cls := findClass_of_methodNamed B.named
  have hlocks := B.notSynchronized
  have hl := lv_entry ([.ref h0, .long x]) (n := 8) (Nat.le_of_ble_eq_true rfl)
  rw [lg_entry_eq]
  generalize (lg_sl ([.ref h0, .long x]) ++ List.replicate (8 - (lg_sl ([.ref h0, .long x])).length) Slot.unset).toArray = ls at hl ⊢
  have hl : lv_has ls 8 [(0, .ref h0), (1, .long x)] := hl
  refine lv_aload_n hx hb d_Clock_numerator_0 rfl (lv_at hl 0 rfl) ?_
  refine va_get (D := G.1) (ci := 2) (v := .int (nI n)) (C := R_Clock) (T := F_Clock) (N := 3) hx hb ht i_Clock hown hK.1 hP 0 rfl rfl 2 (by decide) (ht _ m_152) (fun _ h9 => h9) rfl d_Clock_numerator_1 ?_
  refine lv_if_ne (tgt := 9) hx hb d_Clock_numerator_4 (by decide) (fun c_1 => ?_) (fun c_1 => ?_)
  · have c_1 : ¬ n = 0 := fun h9 => c_1 (by rw [h9]; exact nI_0)
    refine lv_aload_n hx hb d_Clock_numerator_9 rfl (lv_at hl 0 rfl) ?_
    refine lv_lload_n hx hb d_Clock_numerator_10 rfl (lv_at hl 1 rfl) ?_
    refine vp_callSi (va_Run.run (sy_runV (As := [.long x]) (rest := []) (b := h0) ⟨hx, hb, hml, hown, ht⟩ cl_Clock_22 (c_Clock_markBefore l G h0 ad n fL x (by omega)) hK hP (va_recv hK.1 hP (ci := 2) (q0 := 0) rfl rfl) rfl nm_Clock_markBefore rfl rfl ⟨Nat.le_of_ble_eq_true rfl, Nat.le_of_ble_eq_true rfl⟩ hl.1 (Nat.le_of_ble_eq_true rfl) d_Clock_numerator_11 ⟨Nat.zero_le _, Nat.zero_le _⟩)) (fun r_2 hr_2 => ?_)
    obtain ⟨o_3, ho_3, hr_2⟩ := sy_opt hr_2
    subst hr_2
    refine lv_istore_n (lv' := [(3, .int (oI o_3)), (0, .ref h0), (1, .long x)]) hx hb d_Clock_numerator_14 rfl hl (by decide) rfl (fun ls hl => ?_)
    refine lv_aload_n hx hb d_Clock_numerator_15 rfl (lv_at hl 1 rfl) ?_
    refine lv_iload_n hx hb d_Clock_numerator_16 rfl (lv_at hl 0 rfl) ?_
    refine vp_callSi (va_Run.run (sy_runV (As := [.int (oI o_3)]) (rest := []) (b := h0) ⟨hx, hb, hml, hown, ht⟩ cl_Clock_26 (c_Clock_isBetween l G h0 ad n fL o_3 (by omega) (fun j9 h9 => nn_fl_lt (h9 ▸ ho_3).symm)) hK hP (va_recv hK.1 hP (ci := 2) (q0 := 0) rfl rfl) rfl nm_Clock_isBetween rfl rfl ⟨Nat.le_of_ble_eq_true rfl, Nat.le_of_ble_eq_true rfl⟩ hl.1 (Nat.le_of_ble_eq_true rfl) d_Clock_numerator_17 ⟨Nat.zero_le _, Nat.zero_le _⟩)) (fun r_4 hr_4 => ?_)
    subst hr_4
    refine lv_if_eq (tgt := 79) hx hb d_Clock_numerator_20 (by decide) (fun c_5 => ?_) (fun c_5 => ?_)
    · have c_5 : (ck_bt n o_3) = false := bI_f c_5
      refine lv_iload_n hx hb d_Clock_numerator_79 rfl (lv_at hl 0 rfl) ?_
      refine lv_iconst (v := 0) hx hb d_Clock_numerator_80 (by decide) ?_
      rcases o_3 with _ | j_6
      · have hl : lv_has ls 8 [(3, .int (-1)), (0, .ref h0), (1, .long x)] := hl
        refine va_mmax hx hb (by rw [hml]; exact hl.1.symm) hown (ht _ m_473) (ht _ m_474) (ht _ m_38) (ht _ m_475) (Nat.le_of_ble_eq_true rfl) (Nat.le_of_ble_eq_true rfl) (Nat.zero_le _) (Nat.zero_le _) d_Clock_numerator_81 ?_
        refine sy_ti (y := 0) (by decide) ?_
        refine lv_istore (lv' := [(4, .int 0), (3, .int (-1)), (0, .ref h0), (1, .long x)]) hx hb d_Clock_numerator_84 hl (by decide) rfl (fun ls hl => ?_)
        refine lv_lload_n hx hb d_Clock_numerator_86 rfl (lv_at hl 3 rfl) ?_
        refine lv_aload_n hx hb d_Clock_numerator_87 rfl (lv_at hl 2 rfl) ?_
        refine va_get (D := G.1) (ci := 2) (v := .ref (ad 1)) (C := R_Clock) (T := F_Clock) (N := 3) hx hb ht i_Clock hown hK.1 hP 0 rfl rfl 1 (by decide) (ht _ m_151) (fun _ h9 => h9) rfl d_Clock_numerator_88 ?_
        refine lv_iload hx hb d_Clock_numerator_91 (lv_at hl 0 rfl) ?_
        refine sy_lald hx hb hK.1 hP 2 1 rfl rfl (k := 0) (by omega) (by decide) d_Clock_numerator_93 ?_
        refine lv_ladd hx hb d_Clock_numerator_94 ?_
        refine lv_aload_n hx hb d_Clock_numerator_95 rfl (lv_at hl 2 rfl) ?_
        refine va_get (D := G.1) (ci := 2) (v := .ref (ad 0)) (C := R_Clock) (T := F_Clock) (N := 3) hx hb ht i_Clock hown hK.1 hP 0 rfl rfl 0 (by decide) (ht _ m_150) (fun _ h9 => h9) rfl d_Clock_numerator_96 ?_
        refine lv_iload hx hb d_Clock_numerator_99 (lv_at hl 0 rfl) ?_
        refine sy_lald hx hb hK.1 hP 1 1 rfl rfl (k := 0) (by omega) (by decide) d_Clock_numerator_101 ?_
        refine lv_lsub hx hb d_Clock_numerator_102 ?_
        exact W.lret (v := (x + (fL 1 0)) - (fL 0 0)) hx hb hr (fun t ht hW => ⟨(x + (fL 1 0)) - (fL 0 0), rfl, by simp [ck_num, ck_nv, c_1, ← ho_3, c_5], ht⟩) (fun q h => by cases h) d_Clock_numerator_103
      · have hl : lv_has ls 8 [(3, .int (nI j_6)), (0, .ref h0), (1, .long x)] := hl
        have hj_6 : j_6 < 10 := by have := nn_fl_lt ho_3.symm; omega
        have hnb : ¬ j_6 + 1 < n := by simpa [ck_bt] using c_5
        have hjn : j_6 < 10 := by have := nn_fl_lt ho_3.symm; omega
        refine va_mmax hx hb (by rw [hml]; exact hl.1.symm) hown (ht _ m_473) (ht _ m_474) (ht _ m_38) (ht _ m_475) (Nat.le_of_ble_eq_true rfl) (Nat.le_of_ble_eq_true rfl) (Nat.zero_le _) (Nat.zero_le _) d_Clock_numerator_81 ?_
        refine sy_ti (y := nI j_6) (if_neg (nI_pos (by omega))) ?_
        refine lv_istore (lv' := [(4, .int (nI j_6)), (3, .int (nI j_6)), (0, .ref h0), (1, .long x)]) hx hb d_Clock_numerator_84 hl (by decide) rfl (fun ls hl => ?_)
        refine lv_lload_n hx hb d_Clock_numerator_86 rfl (lv_at hl 3 rfl) ?_
        refine lv_aload_n hx hb d_Clock_numerator_87 rfl (lv_at hl 2 rfl) ?_
        refine va_get (D := G.1) (ci := 2) (v := .ref (ad 1)) (C := R_Clock) (T := F_Clock) (N := 3) hx hb ht i_Clock hown hK.1 hP 0 rfl rfl 1 (by decide) (ht _ m_151) (fun _ h9 => h9) rfl d_Clock_numerator_88 ?_
        refine lv_iload hx hb d_Clock_numerator_91 (lv_at hl 0 rfl) ?_
        refine sy_lald hx hb hK.1 hP 2 1 rfl rfl (k := j_6) (by omega) (by decide) d_Clock_numerator_93 ?_
        refine lv_ladd hx hb d_Clock_numerator_94 ?_
        refine lv_aload_n hx hb d_Clock_numerator_95 rfl (lv_at hl 2 rfl) ?_
        refine va_get (D := G.1) (ci := 2) (v := .ref (ad 0)) (C := R_Clock) (T := F_Clock) (N := 3) hx hb ht i_Clock hown hK.1 hP 0 rfl rfl 0 (by decide) (ht _ m_150) (fun _ h9 => h9) rfl d_Clock_numerator_96 ?_
        refine lv_iload hx hb d_Clock_numerator_99 (lv_at hl 0 rfl) ?_
        refine sy_lald hx hb hK.1 hP 1 1 rfl rfl (k := j_6) (by omega) (by decide) d_Clock_numerator_101 ?_
        refine lv_lsub hx hb d_Clock_numerator_102 ?_
        exact W.lret (v := (x + (fL 1 j_6)) - (fL 0 j_6)) hx hb hr (fun t ht hW => ⟨(x + (fL 1 j_6)) - (fL 0 j_6), rfl, by simp [ck_num, ck_nv, c_1, ← ho_3, c_5, hnb], ht⟩) (fun q h => by cases h) d_Clock_numerator_103
    · have c_5 : (ck_bt n o_3) = true := bI_t c_5
      obtain ⟨jb_7, hjb_7, ejb_7⟩ := ck_bt_t c_5
      subst ejb_7
      have hl : lv_has ls 8 [(3, .int (nI jb_7)), (0, .ref h0), (1, .long x)] := hl
      refine lv_aload_n hx hb d_Clock_numerator_23 rfl (lv_at hl 1 rfl) ?_
      refine va_get (D := G.1) (ci := 2) (v := .ref (ad 0)) (C := R_Clock) (T := F_Clock) (N := 3) hx hb ht i_Clock hown hK.1 hP 0 rfl rfl 0 (by decide) (ht _ m_150) (fun _ h9 => h9) rfl d_Clock_numerator_24 ?_
      refine lv_iload_n hx hb d_Clock_numerator_27 rfl (lv_at hl 0 rfl) ?_
      refine lv_iconst (v := 1) hx hb d_Clock_numerator_28 (by decide) ?_
      refine lv_iadd hx hb d_Clock_numerator_29 ?_
      refine sy_ti (y := nI (jb_7 + 1)) (nI_add jb_7 1) ?_
      refine sy_lald hx hb hK.1 hP 1 1 rfl rfl (k := jb_7 + 1) (by omega) (by decide) d_Clock_numerator_30 ?_
      refine lv_aload_n hx hb d_Clock_numerator_31 rfl (lv_at hl 1 rfl) ?_
      refine va_get (D := G.1) (ci := 2) (v := .ref (ad 0)) (C := R_Clock) (T := F_Clock) (N := 3) hx hb ht i_Clock hown hK.1 hP 0 rfl rfl 0 (by decide) (ht _ m_150) (fun _ h9 => h9) rfl d_Clock_numerator_32 ?_
      refine lv_iload_n hx hb d_Clock_numerator_35 rfl (lv_at hl 0 rfl) ?_
      refine sy_lald hx hb hK.1 hP 1 1 rfl rfl (k := jb_7) (by omega) (by decide) d_Clock_numerator_36 ?_
      refine lv_lsub hx hb d_Clock_numerator_37 ?_
      refine lv_lstore (lv' := [(4, .long ((fL 0 (jb_7 + 1)) - (fL 0 jb_7))), (3, .int (nI jb_7)), (0, .ref h0), (1, .long x)]) hx hb d_Clock_numerator_38 hl (by decide) rfl (fun ls hl => ?_)
      refine lv_aload_n hx hb d_Clock_numerator_40 rfl (lv_at hl 2 rfl) ?_
      refine va_get (D := G.1) (ci := 2) (v := .ref (ad 1)) (C := R_Clock) (T := F_Clock) (N := 3) hx hb ht i_Clock hown hK.1 hP 0 rfl rfl 1 (by decide) (ht _ m_151) (fun _ h9 => h9) rfl d_Clock_numerator_41 ?_
      refine lv_iload_n hx hb d_Clock_numerator_44 rfl (lv_at hl 1 rfl) ?_
      refine lv_iconst (v := 1) hx hb d_Clock_numerator_45 (by decide) ?_
      refine lv_iadd hx hb d_Clock_numerator_46 ?_
      refine sy_ti (y := nI (jb_7 + 1)) (nI_add jb_7 1) ?_
      refine sy_lald hx hb hK.1 hP 2 1 rfl rfl (k := jb_7 + 1) (by omega) (by decide) d_Clock_numerator_47 ?_
      refine lv_aload_n hx hb d_Clock_numerator_48 rfl (lv_at hl 2 rfl) ?_
      refine va_get (D := G.1) (ci := 2) (v := .ref (ad 1)) (C := R_Clock) (T := F_Clock) (N := 3) hx hb ht i_Clock hown hK.1 hP 0 rfl rfl 1 (by decide) (ht _ m_151) (fun _ h9 => h9) rfl d_Clock_numerator_49 ?_
      refine lv_iload_n hx hb d_Clock_numerator_52 rfl (lv_at hl 1 rfl) ?_
      refine sy_lald hx hb hK.1 hP 2 1 rfl rfl (k := jb_7) (by omega) (by decide) d_Clock_numerator_53 ?_
      refine lv_lsub hx hb d_Clock_numerator_54 ?_
      refine lv_lstore (lv' := [(6, .long ((fL 1 (jb_7 + 1)) - (fL 1 jb_7))), (4, .long ((fL 0 (jb_7 + 1)) - (fL 0 jb_7))), (3, .int (nI jb_7)), (0, .ref h0), (1, .long x)]) hx hb d_Clock_numerator_55 hl (by decide) rfl (fun ls hl => ?_)
      refine lv_aload_n hx hb d_Clock_numerator_57 rfl (lv_at hl 3 rfl) ?_
      refine va_get (D := G.1) (ci := 2) (v := .ref (ad 1)) (C := R_Clock) (T := F_Clock) (N := 3) hx hb ht i_Clock hown hK.1 hP 0 rfl rfl 1 (by decide) (ht _ m_151) (fun _ h9 => h9) rfl d_Clock_numerator_58 ?_
      refine lv_iload_n hx hb d_Clock_numerator_61 rfl (lv_at hl 2 rfl) ?_
      refine sy_lald hx hb hK.1 hP 2 1 rfl rfl (k := jb_7) (by omega) (by decide) d_Clock_numerator_62 ?_
      refine lv_lload hx hb d_Clock_numerator_63 (lv_at hl 1 rfl) ?_
      refine lv_lmul hx hb d_Clock_numerator_65 ?_
      refine lv_lload_n hx hb d_Clock_numerator_66 rfl (lv_at hl 4 rfl) ?_
      refine lv_aload_n hx hb d_Clock_numerator_67 rfl (lv_at hl 3 rfl) ?_
      refine va_get (D := G.1) (ci := 2) (v := .ref (ad 0)) (C := R_Clock) (T := F_Clock) (N := 3) hx hb ht i_Clock hown hK.1 hP 0 rfl rfl 0 (by decide) (ht _ m_150) (fun _ h9 => h9) rfl d_Clock_numerator_68 ?_
      refine lv_iload_n hx hb d_Clock_numerator_71 rfl (lv_at hl 2 rfl) ?_
      refine sy_lald hx hb hK.1 hP 1 1 rfl rfl (k := jb_7) (by omega) (by decide) d_Clock_numerator_72 ?_
      refine lv_lsub hx hb d_Clock_numerator_73 ?_
      refine lv_lload hx hb d_Clock_numerator_74 (lv_at hl 0 rfl) ?_
      refine lv_lmul hx hb d_Clock_numerator_76 ?_
      refine lv_ladd hx hb d_Clock_numerator_77 ?_
      exact W.lret (v := ((fL 1 jb_7) * ((fL 0 (jb_7 + 1)) - (fL 0 jb_7))) + ((x - (fL 0 jb_7)) * ((fL 1 (jb_7 + 1)) - (fL 1 jb_7)))) hx hb hr (fun t ht hW => ⟨((fL 1 jb_7) * ((fL 0 (jb_7 + 1)) - (fL 0 jb_7))) + ((x - (fL 0 jb_7)) * ((fL 1 (jb_7 + 1)) - (fL 1 jb_7))), rfl, by simp [ck_num, ck_nv, c_1, ← ho_3, c_5, hjb_7], ht⟩) (fun q h => by cases h) d_Clock_numerator_78
  · have c_1 : n = 0 := (nI_eq (by omega) (by omega)).mp (c_1.trans nI_0.symm)
    refine lv_lload_n hx hb d_Clock_numerator_7 rfl (lv_at hl 1 rfl) ?_
    exact W.lret (v := x) hx hb hr (fun t ht hW => ⟨x, rfl, by simp [ck_num, ck_nv, c_1], ht⟩) (fun q h => by cases h) d_Clock_numerator_8
