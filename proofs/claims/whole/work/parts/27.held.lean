set_option maxHeartbeats 4000000 in
set_option maxRecDepth 100000 in
theorem c_Held_clear (l : Launch) (G : sy_G) (ha : Nat) (hf : Nat → Int64) : Met l y_Held_clear (sy_w y_Held_clear b_Held_clear 1 none) { frames := 0, cells := 0, slots := 0, locals := 0 } (va_Pc [.ref ha] (sy_KP G (fun H => va_P G.1 classes (hw ha hf) H ∧ va_D (fun _ => True) (hw ha hf)))) (va_Qv (S := (Nat → Int64)) (fun u => u = he_zero hf) (fun u t => va_P G.1 classes (hw ha u) t.heap) (sy_A (hw ha hf))) 0 0 (sy_A (hw ha hf)) := by
  refine Met.ofW (cc := b_Held_clear) (maxL := 1) (ret := none) (by decide) rfl ?_
  intro p e s m args below meth c s₁ B hml hv
  obtain ⟨rfl, ⟨hP, hD0⟩, hK⟩ := hv
  have hx := B.exec
  have hb := B.bytes
  have hr := B.returns
  have hts := atoms_spec (ws := sy_w y_Held_clear b_Held_clear 1 none) B.pre
  have ht : ∀ wd ∈ sy_T, wd.before ([.ref ha] : List Value).toArray s = true := fun wd h => hts wd (List.mem_cons_of_mem _ h)
  have hown : s.vm.findClass R_Held = some m.cls := findClass_of_methodNamed B.named
  have hlocks := B.notSynchronized
  have hD := sy_self hD0
  generalize hAe : sy_A (hw ha hf) = A at hD ⊢
  have hS : va_S A s.heap s.heap [] := va_S.rf
  have hl := lv_entry ([.ref ha]) (n := 1) (Nat.le_of_ble_eq_true rfl)
  rw [lg_entry_eq]
  generalize (lg_sl ([.ref ha]) ++ List.replicate (1 - (lg_sl ([.ref ha])).length) Slot.unset).toArray = ls at hl ⊢
  have hl : lv_has ls 1 [(0, .ref ha)] := hl
  refine lv_aload_n hx hb d_Held_clear_0 rfl (lv_at hl 0 rfl) ?_
  refine lv_lconst (v := 0) hx hb d_Held_clear_1 (by decide) ?_
  refine va_put (D := G.1) (ci := 3) (v := .long 0) (ty := .long) (C := R_Held) (T := F_Held) (N := 4) hx hb ht i_Held t_Held t_Held_ok n_Held hown hK.1 hP hD hS 0 rfl rfl 0 (by decide) (ht _ m_230) (fun _ h9 => h9) rfl (by decide +kernel) rfl rfl (Nat.le_of_ble_eq_true rfl) d_Held_clear_2 (fun H locs hP hD hS => ?_)
  have hP : va_P G.1 classes (hw ha (va_up hf 0 ((0 : Int64)))) H := hP
  have hD : va_D A (hw ha (va_up hf 0 ((0 : Int64)))) := hD
  refine lv_aload_n hx hb d_Held_clear_5 rfl (lv_at hl 0 rfl) ?_
  refine lv_lconst (v := 0) hx hb d_Held_clear_6 (by decide) ?_
  refine va_put (D := G.1) (ci := 3) (v := .long 0) (ty := .long) (C := R_Held) (T := F_Held) (N := 4) hx hb ht i_Held t_Held t_Held_ok n_Held hown hK.1 hP hD hS 0 rfl rfl 1 (by decide) (ht _ m_232) (fun _ h9 => h9) rfl (by decide +kernel) rfl rfl (Nat.le_of_ble_eq_true rfl) d_Held_clear_7 (fun H locs hP hD hS => ?_)
  have hP : va_P G.1 classes (hw ha (va_up (va_up hf 0 ((0 : Int64))) 1 ((0 : Int64)))) H := hP
  have hD : va_D A (hw ha (va_up (va_up hf 0 ((0 : Int64))) 1 ((0 : Int64)))) := hD
  refine lv_aload_n hx hb d_Held_clear_10 rfl (lv_at hl 0 rfl) ?_
  refine lv_lconst (v := 0) hx hb d_Held_clear_11 (by decide) ?_
  refine va_put (D := G.1) (ci := 3) (v := .long 0) (ty := .long) (C := R_Held) (T := F_Held) (N := 4) hx hb ht i_Held t_Held t_Held_ok n_Held hown hK.1 hP hD hS 0 rfl rfl 2 (by decide) (ht _ m_234) (fun _ h9 => h9) rfl (by decide +kernel) rfl rfl (Nat.le_of_ble_eq_true rfl) d_Held_clear_12 (fun H locs hP hD hS => ?_)
  have hP : va_P G.1 classes (hw ha (va_up (va_up (va_up hf 0 ((0 : Int64))) 1 ((0 : Int64))) 2 ((0 : Int64)))) H := hP
  have hD : va_D A (hw ha (va_up (va_up (va_up hf 0 ((0 : Int64))) 1 ((0 : Int64))) 2 ((0 : Int64)))) := hD
  refine lv_aload_n hx hb d_Held_clear_15 rfl (lv_at hl 0 rfl) ?_
  refine lv_lconst (v := 0) hx hb d_Held_clear_16 (by decide) ?_
  refine va_put (D := G.1) (ci := 3) (v := .long 0) (ty := .long) (C := R_Held) (T := F_Held) (N := 4) hx hb ht i_Held t_Held t_Held_ok n_Held hown hK.1 hP hD hS 0 rfl rfl 3 (by decide) (ht _ m_236) (fun _ h9 => h9) rfl (by decide +kernel) rfl rfl (Nat.le_of_ble_eq_true rfl) d_Held_clear_17 (fun H locs hP hD hS => ?_)
  have hP : va_P G.1 classes (hw ha (va_up (va_up (va_up (va_up hf 0 ((0 : Int64))) 1 ((0 : Int64))) 2 ((0 : Int64))) 3 ((0 : Int64)))) H := hP
  have hD : va_D A (hw ha (va_up (va_up (va_up (va_up hf 0 ((0 : Int64))) 1 ((0 : Int64))) 2 ((0 : Int64))) 3 ((0 : Int64)))) := hD
  exact W.vret hx hb hr (fun t ht hW => ⟨⟨va_up (va_up (va_up (va_up hf 0 ((0 : Int64))) 1 ((0 : Int64))) 2 ((0 : Int64))) 3 ((0 : Int64)), rfl, rfl, by show va_P _ _ _ t.heap; rw [ht]; exact hP⟩, hS.F ht⟩) hS.2.2 d_Held_clear_20
set_option maxHeartbeats 4000000 in
set_option maxRecDepth 100000 in
theorem c_Held_takeIn (l : Launch) (G : sy_G) (ha : Nat) (hf : Nat → Int64) (hb2 : Nat) (hg : Nat → Int64) : Met l y_Held_takeIn (sy_w y_Held_takeIn b_Held_takeIn 3 (some .boolean)) { frames := 1, cells := 0, slots := 0, locals := 24 } (va_Pc [.ref ha, .ref hb2] (sy_KP G (fun H => va_P G.1 classes (hh ha hf hb2 hg) H ∧ va_D (fun _ => True) (hh ha hf hb2 hg)))) (va_Qi (S := (Nat → Int64)) (fun r u => r = bI ((he_more hf hg, he_join hf hg)).1 ∧ u = ((he_more hf hg, he_join hf hg)).2) (fun u t => va_P G.1 classes (hh ha u hb2 hg) t.heap) (sy_A (hh ha hf hb2 hg))) 0 0 (sy_A (hh ha hf hb2 hg)) := by
  refine Met.ofW (cc := b_Held_takeIn) (maxL := 3) (ret := (some .boolean)) (by decide) rfl ?_
  intro p e s m args below meth c s₁ B hml hv
  obtain ⟨rfl, ⟨hP, hD0⟩, hK⟩ := hv
  have hx := B.exec
  have hb := B.bytes
  have hr := B.returns
  have hts := atoms_spec (ws := sy_w y_Held_takeIn b_Held_takeIn 3 (some .boolean)) B.pre
  have ht : ∀ wd ∈ sy_T, wd.before ([.ref ha, .ref hb2] : List Value).toArray s = true := fun wd h => hts wd (List.mem_cons_of_mem _ h)
  have hown : s.vm.findClass R_Held = some m.cls := findClass_of_methodNamed B.named
  have hlocks := B.notSynchronized
  have hD := sy_self hD0
  generalize hAe : sy_A (hh ha hf hb2 hg) = A at hD ⊢
  have hS : va_S A s.heap s.heap [] := va_S.rf
  have hl := lv_entry ([.ref ha, .ref hb2]) (n := 3) (Nat.le_of_ble_eq_true rfl)
  rw [lg_entry_eq]
  generalize (lg_sl ([.ref ha, .ref hb2]) ++ List.replicate (3 - (lg_sl ([.ref ha, .ref hb2])).length) Slot.unset).toArray = ls at hl ⊢
  have hl : lv_has ls 3 [(0, .ref ha), (1, .ref hb2)] := hl
  refine sy_cut (σ := Bool) (nL := 3) (pc2 := 71) (fun bm => [(0, .ref ha), (1, .ref hb2)]) (fun bm => [.int (bI bm)]) (fun bm => bm = he_more hf hg) ?_ ?_
  · intro bm ls hI71 hl
    have hl : lv_has ls 3 [(0, .ref ha), (1, .ref hb2)] := hl
    have em := hI71
    refine lv_istore_n (lv' := [(2, .int (bI bm)), (0, .ref ha), (1, .ref hb2)]) hx hb d_Held_takeIn_71 rfl hl (by decide) rfl (fun ls hl => ?_)
    refine lv_aload_n hx hb d_Held_takeIn_72 rfl (lv_at hl 1 rfl) ?_
    refine lv_dup hx hb d_Held_takeIn_73 rfl ?_
    refine va_get (D := G.1) (ci := 3) (v := .long (hf 0)) (C := R_Held) (T := F_Held) (N := 4) hx hb ht i_Held hown hK.1 hP 0 rfl rfl 0 (by decide) (ht _ m_230) (fun _ h9 => h9) rfl d_Held_takeIn_74 ?_
    refine lv_aload_n hx hb d_Held_takeIn_77 rfl (lv_at hl 2 rfl) ?_
    refine va_get (D := G.1) (ci := 3) (v := .long (hg 0)) (C := R_Held) (T := F_Held) (N := 4) hx hb ht i_Held hown hK.1 hP 1 rfl rfl 0 (by decide) (ht _ m_230) (fun _ h9 => h9) rfl d_Held_takeIn_78 ?_
    refine lv_lor hx hb d_Held_takeIn_81 ?_
    refine va_put (D := G.1) (ci := 3) (v := .long ((hf 0) ||| (hg 0))) (ty := .long) (C := R_Held) (T := F_Held) (N := 4) hx hb ht i_Held t_Held t_Held_ok n_Held hown hK.1 hP hD hS 0 rfl rfl 0 (by decide) (ht _ m_230) (fun _ h9 => h9) rfl (by decide +kernel) rfl rfl (Nat.le_of_ble_eq_true rfl) d_Held_takeIn_82 (fun H locs hP hD hS => ?_)
    have hP : va_P G.1 classes (hh ha (va_up hf 0 ((hf 0) ||| (hg 0))) hb2 hg) H := hP
    have hD : va_D A (hh ha (va_up hf 0 ((hf 0) ||| (hg 0))) hb2 hg) := hD
    refine lv_aload_n hx hb d_Held_takeIn_85 rfl (lv_at hl 1 rfl) ?_
    refine lv_dup hx hb d_Held_takeIn_86 rfl ?_
    refine va_get (D := G.1) (ci := 3) (v := .long (hf 1)) (C := R_Held) (T := F_Held) (N := 4) hx hb ht i_Held hown hK.1 hP 0 rfl rfl 1 (by decide) (ht _ m_232) (fun _ h9 => h9) rfl d_Held_takeIn_87 ?_
    refine lv_aload_n hx hb d_Held_takeIn_90 rfl (lv_at hl 2 rfl) ?_
    refine va_get (D := G.1) (ci := 3) (v := .long (hg 1)) (C := R_Held) (T := F_Held) (N := 4) hx hb ht i_Held hown hK.1 hP 1 rfl rfl 1 (by decide) (ht _ m_232) (fun _ h9 => h9) rfl d_Held_takeIn_91 ?_
    refine lv_lor hx hb d_Held_takeIn_94 ?_
    refine va_put (D := G.1) (ci := 3) (v := .long ((hf 1) ||| (hg 1))) (ty := .long) (C := R_Held) (T := F_Held) (N := 4) hx hb ht i_Held t_Held t_Held_ok n_Held hown hK.1 hP hD hS 0 rfl rfl 1 (by decide) (ht _ m_232) (fun _ h9 => h9) rfl (by decide +kernel) rfl rfl (Nat.le_of_ble_eq_true rfl) d_Held_takeIn_95 (fun H locs hP hD hS => ?_)
    have hP : va_P G.1 classes (hh ha (va_up (va_up hf 0 ((hf 0) ||| (hg 0))) 1 ((hf 1) ||| (hg 1))) hb2 hg) H := hP
    have hD : va_D A (hh ha (va_up (va_up hf 0 ((hf 0) ||| (hg 0))) 1 ((hf 1) ||| (hg 1))) hb2 hg) := hD
    refine lv_aload_n hx hb d_Held_takeIn_98 rfl (lv_at hl 1 rfl) ?_
    refine lv_dup hx hb d_Held_takeIn_99 rfl ?_
    refine va_get (D := G.1) (ci := 3) (v := .long (hf 2)) (C := R_Held) (T := F_Held) (N := 4) hx hb ht i_Held hown hK.1 hP 0 rfl rfl 2 (by decide) (ht _ m_234) (fun _ h9 => h9) rfl d_Held_takeIn_100 ?_
    refine lv_aload_n hx hb d_Held_takeIn_103 rfl (lv_at hl 2 rfl) ?_
    refine va_get (D := G.1) (ci := 3) (v := .long (hg 2)) (C := R_Held) (T := F_Held) (N := 4) hx hb ht i_Held hown hK.1 hP 1 rfl rfl 2 (by decide) (ht _ m_234) (fun _ h9 => h9) rfl d_Held_takeIn_104 ?_
    refine lv_lor hx hb d_Held_takeIn_107 ?_
    refine va_put (D := G.1) (ci := 3) (v := .long ((hf 2) ||| (hg 2))) (ty := .long) (C := R_Held) (T := F_Held) (N := 4) hx hb ht i_Held t_Held t_Held_ok n_Held hown hK.1 hP hD hS 0 rfl rfl 2 (by decide) (ht _ m_234) (fun _ h9 => h9) rfl (by decide +kernel) rfl rfl (Nat.le_of_ble_eq_true rfl) d_Held_takeIn_108 (fun H locs hP hD hS => ?_)
    have hP : va_P G.1 classes (hh ha (va_up (va_up (va_up hf 0 ((hf 0) ||| (hg 0))) 1 ((hf 1) ||| (hg 1))) 2 ((hf 2) ||| (hg 2))) hb2 hg) H := hP
    have hD : va_D A (hh ha (va_up (va_up (va_up hf 0 ((hf 0) ||| (hg 0))) 1 ((hf 1) ||| (hg 1))) 2 ((hf 2) ||| (hg 2))) hb2 hg) := hD
    refine lv_aload_n hx hb d_Held_takeIn_111 rfl (lv_at hl 1 rfl) ?_
    refine lv_aload_n hx hb d_Held_takeIn_112 rfl (lv_at hl 1 rfl) ?_
    refine va_get (D := G.1) (ci := 3) (v := .long (hf 3)) (C := R_Held) (T := F_Held) (N := 4) hx hb ht i_Held hown hK.1 hP 0 rfl rfl 3 (by decide) (ht _ m_236) (fun _ h9 => h9) rfl d_Held_takeIn_113 ?_
    refine lv_aload_n hx hb d_Held_takeIn_116 rfl (lv_at hl 2 rfl) ?_
    refine va_get (D := G.1) (ci := 3) (v := .long (hg 3)) (C := R_Held) (T := F_Held) (N := 4) hx hb ht i_Held hown hK.1 hP 1 rfl rfl 3 (by decide) (ht _ m_236) (fun _ h9 => h9) rfl d_Held_takeIn_117 ?_
    refine va_mmax_long hx hb (by rw [hml]; exact hl.1.symm) hown (ht _ m_276) (ht _ m_277) (ht _ m_38) (ht _ m_278) (Nat.le_of_ble_eq_true rfl) (Nat.le_of_ble_eq_true rfl) (Nat.zero_le _) (Nat.zero_le _) d_Held_takeIn_120 ?_
    refine va_put (D := G.1) (ci := 3) (v := .long (if (hg 3) < (hf 3) then (hf 3) else (hg 3))) (ty := .long) (C := R_Held) (T := F_Held) (N := 4) hx hb ht i_Held t_Held t_Held_ok n_Held hown hK.1 hP hD hS 0 rfl rfl 3 (by decide) (ht _ m_236) (fun _ h9 => h9) rfl (by decide +kernel) rfl rfl (Nat.le_of_ble_eq_true rfl) d_Held_takeIn_123 (fun H locs hP hD hS => ?_)
    have hP : va_P G.1 classes (hh ha (va_up (va_up (va_up (va_up hf 0 ((hf 0) ||| (hg 0))) 1 ((hf 1) ||| (hg 1))) 2 ((hf 2) ||| (hg 2))) 3 (if (hg 3) < (hf 3) then (hf 3) else (hg 3))) hb2 hg) H := hP
    have hD : va_D A (hh ha (va_up (va_up (va_up (va_up hf 0 ((hf 0) ||| (hg 0))) 1 ((hf 1) ||| (hg 1))) 2 ((hf 2) ||| (hg 2))) 3 (if (hg 3) < (hf 3) then (hf 3) else (hg 3))) hb2 hg) := hD
    refine lv_iload_n hx hb d_Held_takeIn_126 rfl (lv_at hl 0 rfl) ?_
    exact W.zret (v := bI bm) hx hb hr (bI_n _) (fun t ht hW => ⟨⟨bI bm, va_up (va_up (va_up (va_up hf 0 ((hf 0) ||| (hg 0))) 1 ((hf 1) ||| (hg 1))) 2 ((hf 2) ||| (hg 2))) 3 (if (hg 3) < (hf 3) then (hf 3) else (hg 3)), rfl, ⟨by rw [em], rfl⟩, by show va_P _ _ _ t.heap; rw [ht]; exact hP⟩, hS.F ht⟩) hS.2.2 d_Held_takeIn_127
  · intro cut71
    refine lv_aload_n hx hb d_Held_takeIn_0 rfl (lv_at hl 1 rfl) ?_
    refine va_get (D := G.1) (ci := 3) (v := .long (hg 0)) (C := R_Held) (T := F_Held) (N := 4) hx hb ht i_Held hown hK.1 hP 1 rfl rfl 0 (by decide) (ht _ m_230) (fun _ h9 => h9) rfl d_Held_takeIn_1 ?_
    refine lv_aload_n hx hb d_Held_takeIn_4 rfl (lv_at hl 0 rfl) ?_
    refine va_get (D := G.1) (ci := 3) (v := .long (hf 0)) (C := R_Held) (T := F_Held) (N := 4) hx hb ht i_Held hown hK.1 hP 0 rfl rfl 0 (by decide) (ht _ m_230) (fun _ h9 => h9) rfl d_Held_takeIn_5 ?_
    refine lv_ldc2 (v := (-1)) hx hb hown (ht _ m_275) d_Held_takeIn_8 ?_
    refine lv_lxor hx hb d_Held_takeIn_11 ?_
    refine lv_land hx hb d_Held_takeIn_12 ?_
    refine lv_lconst (v := 0) hx hb d_Held_takeIn_13 (by decide) ?_
    refine sy_lc_ne (tgt := 66) hx hb d_Held_takeIn_14 d_Held_takeIn_15 (by decide) (fun c_1 => ?_) (fun c_1 => ?_)
    · refine lv_iconst (v := 1) hx hb d_Held_takeIn_66 (by decide) ?_
      refine lv_goto (tgt := 71) hx hb d_Held_takeIn_67 (by decide) ?_
      refine cut71 true ls ?_ (lv_sub hl [0, 1] rfl)
      (unfold he_more; generalize hg 0 &&& (hf 0 ^^^ (-1)) = a0 at c_1 ⊢; generalize hg 1 &&& (hf 1 ^^^ (-1)) = a1 at c_1 ⊢; generalize hg 2 &&& (hf 2 ^^^ (-1)) = a2 at c_1 ⊢; simp [c_1])
    · refine lv_aload_n hx hb d_Held_takeIn_18 rfl (lv_at hl 1 rfl) ?_
      refine va_get (D := G.1) (ci := 3) (v := .long (hg 1)) (C := R_Held) (T := F_Held) (N := 4) hx hb ht i_Held hown hK.1 hP 1 rfl rfl 1 (by decide) (ht _ m_232) (fun _ h9 => h9) rfl d_Held_takeIn_19 ?_
      refine lv_aload_n hx hb d_Held_takeIn_22 rfl (lv_at hl 0 rfl) ?_
      refine va_get (D := G.1) (ci := 3) (v := .long (hf 1)) (C := R_Held) (T := F_Held) (N := 4) hx hb ht i_Held hown hK.1 hP 0 rfl rfl 1 (by decide) (ht _ m_232) (fun _ h9 => h9) rfl d_Held_takeIn_23 ?_
      refine lv_ldc2 (v := (-1)) hx hb hown (ht _ m_275) d_Held_takeIn_26 ?_
      refine lv_lxor hx hb d_Held_takeIn_29 ?_
      refine lv_land hx hb d_Held_takeIn_30 ?_
      refine lv_lconst (v := 0) hx hb d_Held_takeIn_31 (by decide) ?_
      refine sy_lc_ne (tgt := 66) hx hb d_Held_takeIn_32 d_Held_takeIn_33 (by decide) (fun c_2 => ?_) (fun c_2 => ?_)
      · refine lv_iconst (v := 1) hx hb d_Held_takeIn_66 (by decide) ?_
        refine lv_goto (tgt := 71) hx hb d_Held_takeIn_67 (by decide) ?_
        refine cut71 true ls ?_ (lv_sub hl [0, 1] rfl)
        (unfold he_more; generalize hg 0 &&& (hf 0 ^^^ (-1)) = a0 at c_1 c_2 ⊢; generalize hg 1 &&& (hf 1 ^^^ (-1)) = a1 at c_1 c_2 ⊢; generalize hg 2 &&& (hf 2 ^^^ (-1)) = a2 at c_1 c_2 ⊢; simp [c_1, c_2])
      · refine lv_aload_n hx hb d_Held_takeIn_36 rfl (lv_at hl 1 rfl) ?_
        refine va_get (D := G.1) (ci := 3) (v := .long (hg 2)) (C := R_Held) (T := F_Held) (N := 4) hx hb ht i_Held hown hK.1 hP 1 rfl rfl 2 (by decide) (ht _ m_234) (fun _ h9 => h9) rfl d_Held_takeIn_37 ?_
        refine lv_aload_n hx hb d_Held_takeIn_40 rfl (lv_at hl 0 rfl) ?_
        refine va_get (D := G.1) (ci := 3) (v := .long (hf 2)) (C := R_Held) (T := F_Held) (N := 4) hx hb ht i_Held hown hK.1 hP 0 rfl rfl 2 (by decide) (ht _ m_234) (fun _ h9 => h9) rfl d_Held_takeIn_41 ?_
        refine lv_ldc2 (v := (-1)) hx hb hown (ht _ m_275) d_Held_takeIn_44 ?_
        refine lv_lxor hx hb d_Held_takeIn_47 ?_
        refine lv_land hx hb d_Held_takeIn_48 ?_
        refine lv_lconst (v := 0) hx hb d_Held_takeIn_49 (by decide) ?_
        refine sy_lc_ne (tgt := 66) hx hb d_Held_takeIn_50 d_Held_takeIn_51 (by decide) (fun c_3 => ?_) (fun c_3 => ?_)
        · refine lv_iconst (v := 1) hx hb d_Held_takeIn_66 (by decide) ?_
          refine lv_goto (tgt := 71) hx hb d_Held_takeIn_67 (by decide) ?_
          refine cut71 true ls ?_ (lv_sub hl [0, 1] rfl)
          (unfold he_more; generalize hg 0 &&& (hf 0 ^^^ (-1)) = a0 at c_1 c_2 c_3 ⊢; generalize hg 1 &&& (hf 1 ^^^ (-1)) = a1 at c_1 c_2 c_3 ⊢; generalize hg 2 &&& (hf 2 ^^^ (-1)) = a2 at c_1 c_2 c_3 ⊢; simp [c_1, c_2, c_3])
        · refine lv_aload_n hx hb d_Held_takeIn_54 rfl (lv_at hl 1 rfl) ?_
          refine va_get (D := G.1) (ci := 3) (v := .long (hg 3)) (C := R_Held) (T := F_Held) (N := 4) hx hb ht i_Held hown hK.1 hP 1 rfl rfl 3 (by decide) (ht _ m_236) (fun _ h9 => h9) rfl d_Held_takeIn_55 ?_
          refine lv_aload_n hx hb d_Held_takeIn_58 rfl (lv_at hl 0 rfl) ?_
          refine va_get (D := G.1) (ci := 3) (v := .long (hf 3)) (C := R_Held) (T := F_Held) (N := 4) hx hb ht i_Held hown hK.1 hP 0 rfl rfl 3 (by decide) (ht _ m_236) (fun _ h9 => h9) rfl d_Held_takeIn_59 ?_
          refine sy_lc_le (tgt := 70) hx hb d_Held_takeIn_62 d_Held_takeIn_63 (by decide) (fun c_4 => ?_) (fun c_4 => ?_)
          · have c_4n := sy_c64 c_4
            refine lv_iconst (v := 0) hx hb d_Held_takeIn_70 (by decide) ?_
            refine cut71 false ls ?_ (lv_sub hl [0, 1] rfl)
            (unfold he_more; generalize hg 0 &&& (hf 0 ^^^ (-1)) = a0 at c_1 c_2 c_3 c_4 c_4n ⊢; generalize hg 1 &&& (hf 1 ^^^ (-1)) = a1 at c_1 c_2 c_3 c_4 c_4n ⊢; generalize hg 2 &&& (hf 2 ^^^ (-1)) = a2 at c_1 c_2 c_3 c_4 c_4n ⊢; simp [c_1, c_2, c_3, c_4, c_4n])
          · have c_4n := sy_d64 c_4
            refine lv_iconst (v := 1) hx hb d_Held_takeIn_66 (by decide) ?_
            refine lv_goto (tgt := 71) hx hb d_Held_takeIn_67 (by decide) ?_
            refine cut71 true ls ?_ (lv_sub hl [0, 1] rfl)
            (unfold he_more; generalize hg 0 &&& (hf 0 ^^^ (-1)) = a0 at c_1 c_2 c_3 c_4 c_4n ⊢; generalize hg 1 &&& (hf 1 ^^^ (-1)) = a1 at c_1 c_2 c_3 c_4 c_4n ⊢; generalize hg 2 &&& (hf 2 ^^^ (-1)) = a2 at c_1 c_2 c_3 c_4 c_4n ⊢; simp [c_1, c_2, c_3, c_4, c_4n])
set_option maxHeartbeats 4000000 in
set_option maxRecDepth 100000 in
theorem c_Held_takeInS (l : Launch) (G : sy_G) (ha : Nat) (hf : Nat → Int64) : Met l y_Held_takeIn (sy_w y_Held_takeIn b_Held_takeIn 3 (some .boolean)) { frames := 1, cells := 0, slots := 0, locals := 24 } (va_Pc [.ref ha, .ref ha] (sy_KP G (fun H => va_P G.1 classes (hw ha hf) H ∧ va_D (fun _ => True) (hw ha hf)))) (va_Qi (S := (Nat → Int64)) (fun r u => r = bI ((he_more hf hf, he_join hf hf)).1 ∧ u = ((he_more hf hf, he_join hf hf)).2) (fun u t => va_P G.1 classes (hw ha u) t.heap) (sy_A (hw ha hf))) 0 0 (sy_A (hw ha hf)) := by
  refine Met.ofW (cc := b_Held_takeIn) (maxL := 3) (ret := (some .boolean)) (by decide) rfl ?_
  intro p e s m args below meth c s₁ B hml hv
  obtain ⟨rfl, ⟨hP, hD0⟩, hK⟩ := hv
  have hx := B.exec
  have hb := B.bytes
  have hr := B.returns
  have hts := atoms_spec (ws := sy_w y_Held_takeIn b_Held_takeIn 3 (some .boolean)) B.pre
  have ht : ∀ wd ∈ sy_T, wd.before ([.ref ha, .ref ha] : List Value).toArray s = true := fun wd h => hts wd (List.mem_cons_of_mem _ h)
  have hown : s.vm.findClass R_Held = some m.cls := findClass_of_methodNamed B.named
  have hlocks := B.notSynchronized
  have hD := sy_self hD0
  generalize hAe : sy_A (hw ha hf) = A at hD ⊢
  have hS : va_S A s.heap s.heap [] := va_S.rf
  have hl := lv_entry ([.ref ha, .ref ha]) (n := 3) (Nat.le_of_ble_eq_true rfl)
  rw [lg_entry_eq]
  generalize (lg_sl ([.ref ha, .ref ha]) ++ List.replicate (3 - (lg_sl ([.ref ha, .ref ha])).length) Slot.unset).toArray = ls at hl ⊢
  have hl : lv_has ls 3 [(0, .ref ha), (1, .ref ha)] := hl
  refine sy_cut (σ := Bool) (nL := 3) (pc2 := 71) (fun bm => [(0, .ref ha), (1, .ref ha)]) (fun bm => [.int (bI bm)]) (fun bm => bm = he_more hf hf) ?_ ?_
  · intro bm ls hI71 hl
    have hl : lv_has ls 3 [(0, .ref ha), (1, .ref ha)] := hl
    have em := hI71
    refine lv_istore_n (lv' := [(2, .int (bI bm)), (0, .ref ha), (1, .ref ha)]) hx hb d_Held_takeIn_71 rfl hl (by decide) rfl (fun ls hl => ?_)
    refine lv_aload_n hx hb d_Held_takeIn_72 rfl (lv_at hl 1 rfl) ?_
    refine lv_dup hx hb d_Held_takeIn_73 rfl ?_
    refine va_get (D := G.1) (ci := 3) (v := .long (hf 0)) (C := R_Held) (T := F_Held) (N := 4) hx hb ht i_Held hown hK.1 hP 0 rfl rfl 0 (by decide) (ht _ m_230) (fun _ h9 => h9) rfl d_Held_takeIn_74 ?_
    refine lv_aload_n hx hb d_Held_takeIn_77 rfl (lv_at hl 2 rfl) ?_
    refine va_get (D := G.1) (ci := 3) (v := .long (hf 0)) (C := R_Held) (T := F_Held) (N := 4) hx hb ht i_Held hown hK.1 hP 0 rfl rfl 0 (by decide) (ht _ m_230) (fun _ h9 => h9) rfl d_Held_takeIn_78 ?_
    refine lv_lor hx hb d_Held_takeIn_81 ?_
    refine va_put (D := G.1) (ci := 3) (v := .long ((hf 0) ||| (hf 0))) (ty := .long) (C := R_Held) (T := F_Held) (N := 4) hx hb ht i_Held t_Held t_Held_ok n_Held hown hK.1 hP hD hS 0 rfl rfl 0 (by decide) (ht _ m_230) (fun _ h9 => h9) rfl (by decide +kernel) rfl rfl (Nat.le_of_ble_eq_true rfl) d_Held_takeIn_82 (fun H locs hP hD hS => ?_)
    have hP : va_P G.1 classes (hw ha (va_up hf 0 ((hf 0) ||| (hf 0)))) H := hP
    have hD : va_D A (hw ha (va_up hf 0 ((hf 0) ||| (hf 0)))) := hD
    refine lv_aload_n hx hb d_Held_takeIn_85 rfl (lv_at hl 1 rfl) ?_
    refine lv_dup hx hb d_Held_takeIn_86 rfl ?_
    refine va_get (D := G.1) (ci := 3) (v := .long (hf 1)) (C := R_Held) (T := F_Held) (N := 4) hx hb ht i_Held hown hK.1 hP 0 rfl rfl 1 (by decide) (ht _ m_232) (fun _ h9 => h9) rfl d_Held_takeIn_87 ?_
    refine lv_aload_n hx hb d_Held_takeIn_90 rfl (lv_at hl 2 rfl) ?_
    refine va_get (D := G.1) (ci := 3) (v := .long (hf 1)) (C := R_Held) (T := F_Held) (N := 4) hx hb ht i_Held hown hK.1 hP 0 rfl rfl 1 (by decide) (ht _ m_232) (fun _ h9 => h9) rfl d_Held_takeIn_91 ?_
    refine lv_lor hx hb d_Held_takeIn_94 ?_
    refine va_put (D := G.1) (ci := 3) (v := .long ((hf 1) ||| (hf 1))) (ty := .long) (C := R_Held) (T := F_Held) (N := 4) hx hb ht i_Held t_Held t_Held_ok n_Held hown hK.1 hP hD hS 0 rfl rfl 1 (by decide) (ht _ m_232) (fun _ h9 => h9) rfl (by decide +kernel) rfl rfl (Nat.le_of_ble_eq_true rfl) d_Held_takeIn_95 (fun H locs hP hD hS => ?_)
    have hP : va_P G.1 classes (hw ha (va_up (va_up hf 0 ((hf 0) ||| (hf 0))) 1 ((hf 1) ||| (hf 1)))) H := hP
    have hD : va_D A (hw ha (va_up (va_up hf 0 ((hf 0) ||| (hf 0))) 1 ((hf 1) ||| (hf 1)))) := hD
    refine lv_aload_n hx hb d_Held_takeIn_98 rfl (lv_at hl 1 rfl) ?_
    refine lv_dup hx hb d_Held_takeIn_99 rfl ?_
    refine va_get (D := G.1) (ci := 3) (v := .long (hf 2)) (C := R_Held) (T := F_Held) (N := 4) hx hb ht i_Held hown hK.1 hP 0 rfl rfl 2 (by decide) (ht _ m_234) (fun _ h9 => h9) rfl d_Held_takeIn_100 ?_
    refine lv_aload_n hx hb d_Held_takeIn_103 rfl (lv_at hl 2 rfl) ?_
    refine va_get (D := G.1) (ci := 3) (v := .long (hf 2)) (C := R_Held) (T := F_Held) (N := 4) hx hb ht i_Held hown hK.1 hP 0 rfl rfl 2 (by decide) (ht _ m_234) (fun _ h9 => h9) rfl d_Held_takeIn_104 ?_
    refine lv_lor hx hb d_Held_takeIn_107 ?_
    refine va_put (D := G.1) (ci := 3) (v := .long ((hf 2) ||| (hf 2))) (ty := .long) (C := R_Held) (T := F_Held) (N := 4) hx hb ht i_Held t_Held t_Held_ok n_Held hown hK.1 hP hD hS 0 rfl rfl 2 (by decide) (ht _ m_234) (fun _ h9 => h9) rfl (by decide +kernel) rfl rfl (Nat.le_of_ble_eq_true rfl) d_Held_takeIn_108 (fun H locs hP hD hS => ?_)
    have hP : va_P G.1 classes (hw ha (va_up (va_up (va_up hf 0 ((hf 0) ||| (hf 0))) 1 ((hf 1) ||| (hf 1))) 2 ((hf 2) ||| (hf 2)))) H := hP
    have hD : va_D A (hw ha (va_up (va_up (va_up hf 0 ((hf 0) ||| (hf 0))) 1 ((hf 1) ||| (hf 1))) 2 ((hf 2) ||| (hf 2)))) := hD
    refine lv_aload_n hx hb d_Held_takeIn_111 rfl (lv_at hl 1 rfl) ?_
    refine lv_aload_n hx hb d_Held_takeIn_112 rfl (lv_at hl 1 rfl) ?_
    refine va_get (D := G.1) (ci := 3) (v := .long (hf 3)) (C := R_Held) (T := F_Held) (N := 4) hx hb ht i_Held hown hK.1 hP 0 rfl rfl 3 (by decide) (ht _ m_236) (fun _ h9 => h9) rfl d_Held_takeIn_113 ?_
    refine lv_aload_n hx hb d_Held_takeIn_116 rfl (lv_at hl 2 rfl) ?_
    refine va_get (D := G.1) (ci := 3) (v := .long (hf 3)) (C := R_Held) (T := F_Held) (N := 4) hx hb ht i_Held hown hK.1 hP 0 rfl rfl 3 (by decide) (ht _ m_236) (fun _ h9 => h9) rfl d_Held_takeIn_117 ?_
    refine va_mmax_long hx hb (by rw [hml]; exact hl.1.symm) hown (ht _ m_276) (ht _ m_277) (ht _ m_38) (ht _ m_278) (Nat.le_of_ble_eq_true rfl) (Nat.le_of_ble_eq_true rfl) (Nat.zero_le _) (Nat.zero_le _) d_Held_takeIn_120 ?_
    refine va_put (D := G.1) (ci := 3) (v := .long (if (hf 3) < (hf 3) then (hf 3) else (hf 3))) (ty := .long) (C := R_Held) (T := F_Held) (N := 4) hx hb ht i_Held t_Held t_Held_ok n_Held hown hK.1 hP hD hS 0 rfl rfl 3 (by decide) (ht _ m_236) (fun _ h9 => h9) rfl (by decide +kernel) rfl rfl (Nat.le_of_ble_eq_true rfl) d_Held_takeIn_123 (fun H locs hP hD hS => ?_)
    have hP : va_P G.1 classes (hw ha (va_up (va_up (va_up (va_up hf 0 ((hf 0) ||| (hf 0))) 1 ((hf 1) ||| (hf 1))) 2 ((hf 2) ||| (hf 2))) 3 (if (hf 3) < (hf 3) then (hf 3) else (hf 3)))) H := hP
    have hD : va_D A (hw ha (va_up (va_up (va_up (va_up hf 0 ((hf 0) ||| (hf 0))) 1 ((hf 1) ||| (hf 1))) 2 ((hf 2) ||| (hf 2))) 3 (if (hf 3) < (hf 3) then (hf 3) else (hf 3)))) := hD
    refine lv_iload_n hx hb d_Held_takeIn_126 rfl (lv_at hl 0 rfl) ?_
    exact W.zret (v := bI bm) hx hb hr (bI_n _) (fun t ht hW => ⟨⟨bI bm, va_up (va_up (va_up (va_up hf 0 ((hf 0) ||| (hf 0))) 1 ((hf 1) ||| (hf 1))) 2 ((hf 2) ||| (hf 2))) 3 (if (hf 3) < (hf 3) then (hf 3) else (hf 3)), rfl, ⟨by rw [em], rfl⟩, by show va_P _ _ _ t.heap; rw [ht]; exact hP⟩, hS.F ht⟩) hS.2.2 d_Held_takeIn_127
  · intro cut71
    refine lv_aload_n hx hb d_Held_takeIn_0 rfl (lv_at hl 1 rfl) ?_
    refine va_get (D := G.1) (ci := 3) (v := .long (hf 0)) (C := R_Held) (T := F_Held) (N := 4) hx hb ht i_Held hown hK.1 hP 0 rfl rfl 0 (by decide) (ht _ m_230) (fun _ h9 => h9) rfl d_Held_takeIn_1 ?_
    refine lv_aload_n hx hb d_Held_takeIn_4 rfl (lv_at hl 0 rfl) ?_
    refine va_get (D := G.1) (ci := 3) (v := .long (hf 0)) (C := R_Held) (T := F_Held) (N := 4) hx hb ht i_Held hown hK.1 hP 0 rfl rfl 0 (by decide) (ht _ m_230) (fun _ h9 => h9) rfl d_Held_takeIn_5 ?_
    refine lv_ldc2 (v := (-1)) hx hb hown (ht _ m_275) d_Held_takeIn_8 ?_
    refine lv_lxor hx hb d_Held_takeIn_11 ?_
    refine lv_land hx hb d_Held_takeIn_12 ?_
    refine lv_lconst (v := 0) hx hb d_Held_takeIn_13 (by decide) ?_
    refine sy_lc_ne (tgt := 66) hx hb d_Held_takeIn_14 d_Held_takeIn_15 (by decide) (fun c_1 => ?_) (fun c_1 => ?_)
    · refine lv_iconst (v := 1) hx hb d_Held_takeIn_66 (by decide) ?_
      refine lv_goto (tgt := 71) hx hb d_Held_takeIn_67 (by decide) ?_
      refine cut71 true ls ?_ (lv_sub hl [0, 1] rfl)
      (unfold he_more; generalize hf 0 &&& (hf 0 ^^^ (-1)) = a0 at c_1 ⊢; generalize hf 1 &&& (hf 1 ^^^ (-1)) = a1 at c_1 ⊢; generalize hf 2 &&& (hf 2 ^^^ (-1)) = a2 at c_1 ⊢; simp [c_1])
    · refine lv_aload_n hx hb d_Held_takeIn_18 rfl (lv_at hl 1 rfl) ?_
      refine va_get (D := G.1) (ci := 3) (v := .long (hf 1)) (C := R_Held) (T := F_Held) (N := 4) hx hb ht i_Held hown hK.1 hP 0 rfl rfl 1 (by decide) (ht _ m_232) (fun _ h9 => h9) rfl d_Held_takeIn_19 ?_
      refine lv_aload_n hx hb d_Held_takeIn_22 rfl (lv_at hl 0 rfl) ?_
      refine va_get (D := G.1) (ci := 3) (v := .long (hf 1)) (C := R_Held) (T := F_Held) (N := 4) hx hb ht i_Held hown hK.1 hP 0 rfl rfl 1 (by decide) (ht _ m_232) (fun _ h9 => h9) rfl d_Held_takeIn_23 ?_
      refine lv_ldc2 (v := (-1)) hx hb hown (ht _ m_275) d_Held_takeIn_26 ?_
      refine lv_lxor hx hb d_Held_takeIn_29 ?_
      refine lv_land hx hb d_Held_takeIn_30 ?_
      refine lv_lconst (v := 0) hx hb d_Held_takeIn_31 (by decide) ?_
      refine sy_lc_ne (tgt := 66) hx hb d_Held_takeIn_32 d_Held_takeIn_33 (by decide) (fun c_2 => ?_) (fun c_2 => ?_)
      · refine lv_iconst (v := 1) hx hb d_Held_takeIn_66 (by decide) ?_
        refine lv_goto (tgt := 71) hx hb d_Held_takeIn_67 (by decide) ?_
        refine cut71 true ls ?_ (lv_sub hl [0, 1] rfl)
        (unfold he_more; generalize hf 0 &&& (hf 0 ^^^ (-1)) = a0 at c_1 c_2 ⊢; generalize hf 1 &&& (hf 1 ^^^ (-1)) = a1 at c_1 c_2 ⊢; generalize hf 2 &&& (hf 2 ^^^ (-1)) = a2 at c_1 c_2 ⊢; simp [c_1, c_2])
      · refine lv_aload_n hx hb d_Held_takeIn_36 rfl (lv_at hl 1 rfl) ?_
        refine va_get (D := G.1) (ci := 3) (v := .long (hf 2)) (C := R_Held) (T := F_Held) (N := 4) hx hb ht i_Held hown hK.1 hP 0 rfl rfl 2 (by decide) (ht _ m_234) (fun _ h9 => h9) rfl d_Held_takeIn_37 ?_
        refine lv_aload_n hx hb d_Held_takeIn_40 rfl (lv_at hl 0 rfl) ?_
        refine va_get (D := G.1) (ci := 3) (v := .long (hf 2)) (C := R_Held) (T := F_Held) (N := 4) hx hb ht i_Held hown hK.1 hP 0 rfl rfl 2 (by decide) (ht _ m_234) (fun _ h9 => h9) rfl d_Held_takeIn_41 ?_
        refine lv_ldc2 (v := (-1)) hx hb hown (ht _ m_275) d_Held_takeIn_44 ?_
        refine lv_lxor hx hb d_Held_takeIn_47 ?_
        refine lv_land hx hb d_Held_takeIn_48 ?_
        refine lv_lconst (v := 0) hx hb d_Held_takeIn_49 (by decide) ?_
        refine sy_lc_ne (tgt := 66) hx hb d_Held_takeIn_50 d_Held_takeIn_51 (by decide) (fun c_3 => ?_) (fun c_3 => ?_)
        · refine lv_iconst (v := 1) hx hb d_Held_takeIn_66 (by decide) ?_
          refine lv_goto (tgt := 71) hx hb d_Held_takeIn_67 (by decide) ?_
          refine cut71 true ls ?_ (lv_sub hl [0, 1] rfl)
          (unfold he_more; generalize hf 0 &&& (hf 0 ^^^ (-1)) = a0 at c_1 c_2 c_3 ⊢; generalize hf 1 &&& (hf 1 ^^^ (-1)) = a1 at c_1 c_2 c_3 ⊢; generalize hf 2 &&& (hf 2 ^^^ (-1)) = a2 at c_1 c_2 c_3 ⊢; simp [c_1, c_2, c_3])
        · refine lv_aload_n hx hb d_Held_takeIn_54 rfl (lv_at hl 1 rfl) ?_
          refine va_get (D := G.1) (ci := 3) (v := .long (hf 3)) (C := R_Held) (T := F_Held) (N := 4) hx hb ht i_Held hown hK.1 hP 0 rfl rfl 3 (by decide) (ht _ m_236) (fun _ h9 => h9) rfl d_Held_takeIn_55 ?_
          refine lv_aload_n hx hb d_Held_takeIn_58 rfl (lv_at hl 0 rfl) ?_
          refine va_get (D := G.1) (ci := 3) (v := .long (hf 3)) (C := R_Held) (T := F_Held) (N := 4) hx hb ht i_Held hown hK.1 hP 0 rfl rfl 3 (by decide) (ht _ m_236) (fun _ h9 => h9) rfl d_Held_takeIn_59 ?_
          refine sy_lc_le (tgt := 70) hx hb d_Held_takeIn_62 d_Held_takeIn_63 (by decide) (fun c_4 => ?_) (fun c_4 => ?_)
          · have c_4n := sy_c64 c_4
            refine lv_iconst (v := 0) hx hb d_Held_takeIn_70 (by decide) ?_
            refine cut71 false ls ?_ (lv_sub hl [0, 1] rfl)
            (unfold he_more; generalize hf 0 &&& (hf 0 ^^^ (-1)) = a0 at c_1 c_2 c_3 c_4 c_4n ⊢; generalize hf 1 &&& (hf 1 ^^^ (-1)) = a1 at c_1 c_2 c_3 c_4 c_4n ⊢; generalize hf 2 &&& (hf 2 ^^^ (-1)) = a2 at c_1 c_2 c_3 c_4 c_4n ⊢; simp [c_1, c_2, c_3, c_4, c_4n])
          · have c_4n := sy_d64 c_4
            refine lv_iconst (v := 1) hx hb d_Held_takeIn_66 (by decide) ?_
            refine lv_goto (tgt := 71) hx hb d_Held_takeIn_67 (by decide) ?_
            refine cut71 true ls ?_ (lv_sub hl [0, 1] rfl)
            (unfold he_more; generalize hf 0 &&& (hf 0 ^^^ (-1)) = a0 at c_1 c_2 c_3 c_4 c_4n ⊢; generalize hf 1 &&& (hf 1 ^^^ (-1)) = a1 at c_1 c_2 c_3 c_4 c_4n ⊢; generalize hf 2 &&& (hf 2 ^^^ (-1)) = a2 at c_1 c_2 c_3 c_4 c_4n ⊢; simp [c_1, c_2, c_3, c_4, c_4n])
