set_option maxHeartbeats 4000000 in
set_option maxRecDepth 100000 in
theorem c_Tellings_add (l : Launch) (G : sy_G) (h0 : Nat) (ad : Nat → Nat) (n : Nat) (fI : Nat → Nat → Int32) (fL : Nat → Nat → Int64) (d : Int32) (lf : Int32) (nu : Int32) (kd : Int32) (se : Int64) (v : Int64) (wh : Int64) (hn : n ≤ 60) : Met l y_Tellings_add (sy_w y_Tellings_add b_Tellings_add 11 (some .boolean)) { frames := 0, cells := 0, slots := 0, locals := 0 } (va_Pc [.ref h0, .int d, .int lf, .int nu, .int kd, .long se, .long v, .long wh] (sy_KP G (fun H => va_P G.1 classes (tw G.2 h0 ad n fI fL) H ∧ va_D (fun _ => True) (tw G.2 h0 ad n fI fL)))) (va_Qi (S := tl_S) (fun r u => r = bI (tl_add n fI fL d lf nu kd se v wh).1 ∧ u = (tl_add n fI fL d lf nu kd se v wh).2) (fun u t => va_P G.1 classes (tw G.2 h0 ad u.1 u.2.1 u.2.2) t.heap) (sy_A (tw G.2 h0 ad n fI fL))) 0 0 (sy_A (tw G.2 h0 ad n fI fL)) := by
  refine Met.ofW (cc := b_Tellings_add) (maxL := 11) (ret := (some .boolean)) (by decide) rfl ?_
  intro p e s m args below meth c s₁ B hml hv
  obtain ⟨rfl, ⟨hP, hD0⟩, hK⟩ := hv
  have hx := B.exec
  have hb := B.bytes
  have hr := B.returns
  have hts := atoms_spec (ws := sy_w y_Tellings_add b_Tellings_add 11 (some .boolean)) B.pre
  have ht : ∀ wd ∈ sy_T, wd.before ([.ref h0, .int d, .int lf, .int nu, .int kd, .long se, .long v, .long wh] : List Value).toArray s = true := fun wd h => hts wd (List.mem_cons_of_mem _ h)
  have hown : s.vm.findClass R_Tellings = some m.cls := findClass_of_methodNamed B.named
  have hlocks := B.notSynchronized
  have hD := sy_self hD0
  generalize hAe : sy_A (tw G.2 h0 ad n fI fL) = A at hD ⊢
  have hS : va_S A s.heap s.heap [] := va_S.rf
  have hl := lv_entry ([.ref h0, .int d, .int lf, .int nu, .int kd, .long se, .long v, .long wh]) (n := 11) (Nat.le_of_ble_eq_true rfl)
  rw [lg_entry_eq]
  generalize (lg_sl ([.ref h0, .int d, .int lf, .int nu, .int kd, .long se, .long v, .long wh]) ++ List.replicate (11 - (lg_sl ([.ref h0, .int d, .int lf, .int nu, .int kd, .long se, .long v, .long wh])).length) Slot.unset).toArray = ls at hl ⊢
  have hl : lv_has ls 11 [(0, .ref h0), (1, .int d), (2, .int lf), (3, .int nu), (4, .int kd), (5, .long se), (7, .long v), (9, .long wh)] := hl
  refine lv_aload_n hx hb d_Tellings_add_0 rfl (lv_at hl 0 rfl) ?_
  refine va_get (D := G.1) (ci := 5) (v := .int (nI n)) (C := R_Tellings) (T := F_Tellings) (N := 8) hx hb ht i_Tellings hown hK.1 hP 0 rfl rfl 7 (by decide) (ht _ m_67) (fun _ h9 => h9) rfl d_Tellings_add_1 ?_
  refine lv_bipush (v := 60) hx hb d_Tellings_add_4 (by decide) ?_
  refine lv_icmp_lt (tgt := 11) hx hb d_Tellings_add_6 (by decide) (fun c_1 => ?_) (fun c_1 => ?_)
  · have c_1 : n < 60 := (nI_ltI (a := n) (b := 60) (by omega) (by omega)).mp c_1
    have c_1n : ¬ 60 ≤ n := by omega
    refine lv_aload_n hx hb d_Tellings_add_11 rfl (lv_at hl 0 rfl) ?_
    refine va_get (D := G.1) (ci := 5) (v := .ref (ad 0)) (C := R_Tellings) (T := F_Tellings) (N := 8) hx hb ht i_Tellings hown hK.1 hP 0 rfl rfl 0 (by decide) (ht _ m_58) (fun _ h9 => h9) rfl d_Tellings_add_12 ?_
    refine lv_aload_n hx hb d_Tellings_add_15 rfl (lv_at hl 0 rfl) ?_
    refine va_get (D := G.1) (ci := 5) (v := .int (nI n)) (C := R_Tellings) (T := F_Tellings) (N := 8) hx hb ht i_Tellings hown hK.1 hP 0 rfl rfl 7 (by decide) (ht _ m_67) (fun _ h9 => h9) rfl d_Tellings_add_16 ?_
    refine lv_iload_n hx hb d_Tellings_add_19 rfl (lv_at hl 1 rfl) ?_
    refine sy_iast hx hb hK.1 hP hD hS 1 0 rfl rfl (k := n) (by omega) (by decide) d_Tellings_add_20 (fun H locs hP hD hS => ?_)
    have hP : va_P G.1 classes (tw G.2 h0 ad n (va_up fI 0 (upd (fI 0) n d)) fL) H := hP
    have hD : va_D A (tw G.2 h0 ad n (va_up fI 0 (upd (fI 0) n d)) fL) := hD
    refine lv_aload_n hx hb d_Tellings_add_21 rfl (lv_at hl 0 rfl) ?_
    refine va_get (D := G.1) (ci := 5) (v := .ref (ad 1)) (C := R_Tellings) (T := F_Tellings) (N := 8) hx hb ht i_Tellings hown hK.1 hP 0 rfl rfl 1 (by decide) (ht _ m_59) (fun _ h9 => h9) rfl d_Tellings_add_22 ?_
    refine lv_aload_n hx hb d_Tellings_add_25 rfl (lv_at hl 0 rfl) ?_
    refine va_get (D := G.1) (ci := 5) (v := .int (nI n)) (C := R_Tellings) (T := F_Tellings) (N := 8) hx hb ht i_Tellings hown hK.1 hP 0 rfl rfl 7 (by decide) (ht _ m_67) (fun _ h9 => h9) rfl d_Tellings_add_26 ?_
    refine lv_iload_n hx hb d_Tellings_add_29 rfl (lv_at hl 2 rfl) ?_
    refine sy_iast hx hb hK.1 hP hD hS 2 0 rfl rfl (k := n) (by omega) (by decide) d_Tellings_add_30 (fun H locs hP hD hS => ?_)
    have hP : va_P G.1 classes (tw G.2 h0 ad n (va_up (va_up fI 0 (upd (fI 0) n d)) 1 (upd (fI 1) n lf)) fL) H := hP
    have hD : va_D A (tw G.2 h0 ad n (va_up (va_up fI 0 (upd (fI 0) n d)) 1 (upd (fI 1) n lf)) fL) := hD
    refine lv_aload_n hx hb d_Tellings_add_31 rfl (lv_at hl 0 rfl) ?_
    refine va_get (D := G.1) (ci := 5) (v := .ref (ad 2)) (C := R_Tellings) (T := F_Tellings) (N := 8) hx hb ht i_Tellings hown hK.1 hP 0 rfl rfl 2 (by decide) (ht _ m_60) (fun _ h9 => h9) rfl d_Tellings_add_32 ?_
    refine lv_aload_n hx hb d_Tellings_add_35 rfl (lv_at hl 0 rfl) ?_
    refine va_get (D := G.1) (ci := 5) (v := .int (nI n)) (C := R_Tellings) (T := F_Tellings) (N := 8) hx hb ht i_Tellings hown hK.1 hP 0 rfl rfl 7 (by decide) (ht _ m_67) (fun _ h9 => h9) rfl d_Tellings_add_36 ?_
    refine lv_iload_n hx hb d_Tellings_add_39 rfl (lv_at hl 3 rfl) ?_
    refine sy_iast hx hb hK.1 hP hD hS 3 0 rfl rfl (k := n) (by omega) (by decide) d_Tellings_add_40 (fun H locs hP hD hS => ?_)
    have hP : va_P G.1 classes (tw G.2 h0 ad n (va_up (va_up (va_up fI 0 (upd (fI 0) n d)) 1 (upd (fI 1) n lf)) 2 (upd (fI 2) n nu)) fL) H := hP
    have hD : va_D A (tw G.2 h0 ad n (va_up (va_up (va_up fI 0 (upd (fI 0) n d)) 1 (upd (fI 1) n lf)) 2 (upd (fI 2) n nu)) fL) := hD
    refine lv_aload_n hx hb d_Tellings_add_41 rfl (lv_at hl 0 rfl) ?_
    refine va_get (D := G.1) (ci := 5) (v := .ref (ad 3)) (C := R_Tellings) (T := F_Tellings) (N := 8) hx hb ht i_Tellings hown hK.1 hP 0 rfl rfl 3 (by decide) (ht _ m_61) (fun _ h9 => h9) rfl d_Tellings_add_42 ?_
    refine lv_aload_n hx hb d_Tellings_add_45 rfl (lv_at hl 0 rfl) ?_
    refine va_get (D := G.1) (ci := 5) (v := .int (nI n)) (C := R_Tellings) (T := F_Tellings) (N := 8) hx hb ht i_Tellings hown hK.1 hP 0 rfl rfl 7 (by decide) (ht _ m_67) (fun _ h9 => h9) rfl d_Tellings_add_46 ?_
    refine lv_iload hx hb d_Tellings_add_49 (lv_at hl 4 rfl) ?_
    refine sy_iast hx hb hK.1 hP hD hS 4 0 rfl rfl (k := n) (by omega) (by decide) d_Tellings_add_51 (fun H locs hP hD hS => ?_)
    have hP : va_P G.1 classes (tw G.2 h0 ad n (va_up (va_up (va_up (va_up fI 0 (upd (fI 0) n d)) 1 (upd (fI 1) n lf)) 2 (upd (fI 2) n nu)) 3 (upd (fI 3) n kd)) fL) H := hP
    have hD : va_D A (tw G.2 h0 ad n (va_up (va_up (va_up (va_up fI 0 (upd (fI 0) n d)) 1 (upd (fI 1) n lf)) 2 (upd (fI 2) n nu)) 3 (upd (fI 3) n kd)) fL) := hD
    refine lv_aload_n hx hb d_Tellings_add_52 rfl (lv_at hl 0 rfl) ?_
    refine va_get (D := G.1) (ci := 5) (v := .ref (ad 4)) (C := R_Tellings) (T := F_Tellings) (N := 8) hx hb ht i_Tellings hown hK.1 hP 0 rfl rfl 4 (by decide) (ht _ m_62) (fun _ h9 => h9) rfl d_Tellings_add_53 ?_
    refine lv_aload_n hx hb d_Tellings_add_56 rfl (lv_at hl 0 rfl) ?_
    refine va_get (D := G.1) (ci := 5) (v := .int (nI n)) (C := R_Tellings) (T := F_Tellings) (N := 8) hx hb ht i_Tellings hown hK.1 hP 0 rfl rfl 7 (by decide) (ht _ m_67) (fun _ h9 => h9) rfl d_Tellings_add_57 ?_
    refine lv_lload hx hb d_Tellings_add_60 (lv_at hl 5 rfl) ?_
    refine sy_last hx hb hK.1 hP hD hS 5 1 rfl rfl (k := n) (by omega) (by decide) d_Tellings_add_62 (fun H locs hP hD hS => ?_)
    have hP : va_P G.1 classes (tw G.2 h0 ad n (va_up (va_up (va_up (va_up fI 0 (upd (fI 0) n d)) 1 (upd (fI 1) n lf)) 2 (upd (fI 2) n nu)) 3 (upd (fI 3) n kd)) (va_up fL 0 (vp_updL (fL 0) n se))) H := hP
    have hD : va_D A (tw G.2 h0 ad n (va_up (va_up (va_up (va_up fI 0 (upd (fI 0) n d)) 1 (upd (fI 1) n lf)) 2 (upd (fI 2) n nu)) 3 (upd (fI 3) n kd)) (va_up fL 0 (vp_updL (fL 0) n se))) := hD
    refine lv_aload_n hx hb d_Tellings_add_63 rfl (lv_at hl 0 rfl) ?_
    refine va_get (D := G.1) (ci := 5) (v := .ref (ad 5)) (C := R_Tellings) (T := F_Tellings) (N := 8) hx hb ht i_Tellings hown hK.1 hP 0 rfl rfl 5 (by decide) (ht _ m_64) (fun _ h9 => h9) rfl d_Tellings_add_64 ?_
    refine lv_aload_n hx hb d_Tellings_add_67 rfl (lv_at hl 0 rfl) ?_
    refine va_get (D := G.1) (ci := 5) (v := .int (nI n)) (C := R_Tellings) (T := F_Tellings) (N := 8) hx hb ht i_Tellings hown hK.1 hP 0 rfl rfl 7 (by decide) (ht _ m_67) (fun _ h9 => h9) rfl d_Tellings_add_68 ?_
    refine lv_lload hx hb d_Tellings_add_71 (lv_at hl 6 rfl) ?_
    refine sy_last hx hb hK.1 hP hD hS 6 1 rfl rfl (k := n) (by omega) (by decide) d_Tellings_add_73 (fun H locs hP hD hS => ?_)
    have hP : va_P G.1 classes (tw G.2 h0 ad n (va_up (va_up (va_up (va_up fI 0 (upd (fI 0) n d)) 1 (upd (fI 1) n lf)) 2 (upd (fI 2) n nu)) 3 (upd (fI 3) n kd)) (va_up (va_up fL 0 (vp_updL (fL 0) n se)) 1 (vp_updL (fL 1) n v))) H := hP
    have hD : va_D A (tw G.2 h0 ad n (va_up (va_up (va_up (va_up fI 0 (upd (fI 0) n d)) 1 (upd (fI 1) n lf)) 2 (upd (fI 2) n nu)) 3 (upd (fI 3) n kd)) (va_up (va_up fL 0 (vp_updL (fL 0) n se)) 1 (vp_updL (fL 1) n v))) := hD
    refine lv_aload_n hx hb d_Tellings_add_74 rfl (lv_at hl 0 rfl) ?_
    refine va_get (D := G.1) (ci := 5) (v := .ref (ad 6)) (C := R_Tellings) (T := F_Tellings) (N := 8) hx hb ht i_Tellings hown hK.1 hP 0 rfl rfl 6 (by decide) (ht _ m_66) (fun _ h9 => h9) rfl d_Tellings_add_75 ?_
    refine lv_aload_n hx hb d_Tellings_add_78 rfl (lv_at hl 0 rfl) ?_
    refine va_get (D := G.1) (ci := 5) (v := .int (nI n)) (C := R_Tellings) (T := F_Tellings) (N := 8) hx hb ht i_Tellings hown hK.1 hP 0 rfl rfl 7 (by decide) (ht _ m_67) (fun _ h9 => h9) rfl d_Tellings_add_79 ?_
    refine lv_lload hx hb d_Tellings_add_82 (lv_at hl 7 rfl) ?_
    refine sy_last hx hb hK.1 hP hD hS 7 1 rfl rfl (k := n) (by omega) (by decide) d_Tellings_add_84 (fun H locs hP hD hS => ?_)
    have hP : va_P G.1 classes (tw G.2 h0 ad n (va_up (va_up (va_up (va_up fI 0 (upd (fI 0) n d)) 1 (upd (fI 1) n lf)) 2 (upd (fI 2) n nu)) 3 (upd (fI 3) n kd)) (va_up (va_up (va_up fL 0 (vp_updL (fL 0) n se)) 1 (vp_updL (fL 1) n v)) 2 (vp_updL (fL 2) n wh))) H := hP
    have hD : va_D A (tw G.2 h0 ad n (va_up (va_up (va_up (va_up fI 0 (upd (fI 0) n d)) 1 (upd (fI 1) n lf)) 2 (upd (fI 2) n nu)) 3 (upd (fI 3) n kd)) (va_up (va_up (va_up fL 0 (vp_updL (fL 0) n se)) 1 (vp_updL (fL 1) n v)) 2 (vp_updL (fL 2) n wh))) := hD
    refine lv_aload_n hx hb d_Tellings_add_85 rfl (lv_at hl 0 rfl) ?_
    refine lv_dup hx hb d_Tellings_add_86 rfl ?_
    refine va_get (D := G.1) (ci := 5) (v := .int (nI n)) (C := R_Tellings) (T := F_Tellings) (N := 8) hx hb ht i_Tellings hown hK.1 hP 0 rfl rfl 7 (by decide) (ht _ m_67) (fun _ h9 => h9) rfl d_Tellings_add_87 ?_
    refine lv_iconst (v := 1) hx hb d_Tellings_add_90 (by decide) ?_
    refine lv_iadd hx hb d_Tellings_add_91 ?_
    refine sy_ti (y := nI (n + 1)) (nI_add n 1) ?_
    refine va_put (D := G.1) (ci := 5) (v := .int (nI (n + 1))) (ty := .int) (C := R_Tellings) (T := F_Tellings) (N := 8) hx hb ht i_Tellings t_Tellings t_Tellings_ok n_Tellings hown hK.1 hP hD hS 0 rfl rfl 7 (by decide) (ht _ m_67) (fun _ h9 => h9) rfl (by decide +kernel) rfl rfl (Nat.le_of_ble_eq_true rfl) d_Tellings_add_92 (fun H locs hP hD hS => ?_)
    have hP : va_P G.1 classes (tw G.2 h0 ad (n + 1) (va_up (va_up (va_up (va_up fI 0 (upd (fI 0) n d)) 1 (upd (fI 1) n lf)) 2 (upd (fI 2) n nu)) 3 (upd (fI 3) n kd)) (va_up (va_up (va_up fL 0 (vp_updL (fL 0) n se)) 1 (vp_updL (fL 1) n v)) 2 (vp_updL (fL 2) n wh))) H := hP
    have hD : va_D A (tw G.2 h0 ad (n + 1) (va_up (va_up (va_up (va_up fI 0 (upd (fI 0) n d)) 1 (upd (fI 1) n lf)) 2 (upd (fI 2) n nu)) 3 (upd (fI 3) n kd)) (va_up (va_up (va_up fL 0 (vp_updL (fL 0) n se)) 1 (vp_updL (fL 1) n v)) 2 (vp_updL (fL 2) n wh))) := hD
    refine lv_iconst (v := 1) hx hb d_Tellings_add_95 (by decide) ?_
    exact W.zret (v := (1 : Int32)) hx hb hr (rfl) (fun t ht hW => ⟨⟨(1 : Int32), (n + 1, va_up (va_up (va_up (va_up fI 0 (upd (fI 0) n d)) 1 (upd (fI 1) n lf)) 2 (upd (fI 2) n nu)) 3 (upd (fI 3) n kd), va_up (va_up (va_up fL 0 (vp_updL (fL 0) n se)) 1 (vp_updL (fL 1) n v)) 2 (vp_updL (fL 2) n wh)), rfl, by constructor <;> simp [tl_add, bI, c_1, c_1n], by show va_P _ _ _ t.heap; rw [ht]; exact hP⟩, hS.F ht⟩) hS.2.2 d_Tellings_add_96
  · have c_1 : ¬ n < 60 := fun h9 => c_1 ((nI_ltI (a := n) (b := 60) (by omega) (by omega)).mpr h9)
    have c_1n : 60 ≤ n := by omega
    refine lv_iconst (v := 0) hx hb d_Tellings_add_9 (by decide) ?_
    exact W.zret (v := (0 : Int32)) hx hb hr (rfl) (fun t ht hW => ⟨⟨(0 : Int32), (n, fI, fL), rfl, by constructor <;> simp [tl_add, bI, c_1, c_1n], by show va_P _ _ _ t.heap; rw [ht]; exact hP⟩, hS.F ht⟩) hS.2.2 d_Tellings_add_10
set_option maxHeartbeats 4000000 in
set_option maxRecDepth 100000 in
theorem c_Corrections_findOrAdd (l : Launch) (G : sy_G) (h0 : Nat) (ad : Nat → Nat) (n : Nat) (fI : Nat → Nat → Int32) (fL : Nat → Nat → Int64) (d : Int32) (kd : Int32) (se : Int64) (v : Int64) (wh : Int64) (hn : n ≤ 20) : Met l y_Corrections_findOrAdd (sy_w y_Corrections_findOrAdd b_Corrections_findOrAdd 10 (some .int)) { frames := 1, cells := 0, slots := 0, locals := 25 } (va_Pc [.ref h0, .int d, .int kd, .long se, .long v, .long wh] (sy_KP G (fun H => va_P G.1 classes (cw G.2 h0 ad n fI fL) H ∧ va_D (fun _ => True) (cw G.2 h0 ad n fI fL)))) (va_Qi (S := tl_S) (fun r u => r = oI (co_add n fI fL d kd se v wh).1 ∧ u = (co_add n fI fL d kd se v wh).2) (fun u t => va_P G.1 classes (cw G.2 h0 ad u.1 u.2.1 u.2.2) t.heap) (sy_A (cw G.2 h0 ad n fI fL))) 0 0 (sy_A (cw G.2 h0 ad n fI fL)) := by
  refine Met.ofW (cc := b_Corrections_findOrAdd) (maxL := 10) (ret := (some .int)) (by decide) rfl ?_
  intro p e s m args below meth c s₁ B hml hv
  obtain ⟨rfl, ⟨hP, hD0⟩, hK⟩ := hv
  have hx := B.exec
  have hb := B.bytes
  have hr := B.returns
  have hts := atoms_spec (ws := sy_w y_Corrections_findOrAdd b_Corrections_findOrAdd 10 (some .int)) B.pre
  have ht : ∀ wd ∈ sy_T, wd.before ([.ref h0, .int d, .int kd, .long se, .long v, .long wh] : List Value).toArray s = true := fun wd h => hts wd (List.mem_cons_of_mem _ h)
  have hown : s.vm.findClass R_Corrections = some m.cls := findClass_of_methodNamed B.named
  have hlocks := B.notSynchronized
  have hD := sy_self hD0
  generalize hAe : sy_A (cw G.2 h0 ad n fI fL) = A at hD ⊢
  have hS : va_S A s.heap s.heap [] := va_S.rf
  have hl := lv_entry ([.ref h0, .int d, .int kd, .long se, .long v, .long wh]) (n := 10) (Nat.le_of_ble_eq_true rfl)
  rw [lg_entry_eq]
  generalize (lg_sl ([.ref h0, .int d, .int kd, .long se, .long v, .long wh]) ++ List.replicate (10 - (lg_sl ([.ref h0, .int d, .int kd, .long se, .long v, .long wh])).length) Slot.unset).toArray = ls at hl ⊢
  have hl : lv_has ls 10 [(0, .ref h0), (1, .int d), (2, .int kd), (3, .long se), (5, .long v), (7, .long wh)] := hl
  refine lv_iconst (v := 0) hx hb d_Corrections_findOrAdd_0 (by decide) ?_
  refine lv_istore (lv' := [(9, .int 0), (0, .ref h0), (1, .int d), (2, .int kd), (3, .long se), (5, .long v), (7, .long wh)]) hx hb d_Corrections_findOrAdd_1 hl (by decide) rfl (fun ls hl => ?_)
  refine sy_loop (σ := Nat) (nL := 10) (fun k => n - k) (fun k => [(9, .int (nI k)), (0, .ref h0), (1, .int d), (2, .int kd), (3, .long se), (5, .long v), (7, .long wh)]) (fun k => k ≤ n ∧ nn_ff (co_eq fI fL d kd se v wh) k = none) ?_ 0 ?_ (lv_sub hl [0, 1, 2, 3, 4, 5, 6] rfl)
  · intro k ls hI hl ih3
    have hl : lv_has ls 10 [(9, .int (nI k)), (0, .ref h0), (1, .int d), (2, .int kd), (3, .long se), (5, .long v), (7, .long wh)] := hl
    obtain ⟨hk, hI⟩ := hI
    refine lv_iload hx hb d_Corrections_findOrAdd_3 (lv_at hl 0 rfl) ?_
    refine lv_aload_n hx hb d_Corrections_findOrAdd_5 rfl (lv_at hl 1 rfl) ?_
    refine va_get (D := G.1) (ci := 6) (v := .int (nI n)) (C := R_Corrections) (T := F_Corrections) (N := 6) hx hb ht i_Corrections hown hK.1 hP 0 rfl rfl 5 (by decide) (ht _ m_99) (fun _ h9 => h9) rfl d_Corrections_findOrAdd_6 ?_
    refine lv_icmp_ge (tgt := 59) hx hb d_Corrections_findOrAdd_9 (by decide) (fun c_1 => ?_) (fun c_1 => ?_)
    · have c_1 : n ≤ k := (nI_leI (a := n) (b := k) (by omega) (by omega)).mp c_1
      have c_1n : ¬ k < n := by omega
      refine lv_aload_n hx hb d_Corrections_findOrAdd_59 rfl (lv_at hl 1 rfl) ?_
      refine va_get (D := G.1) (ci := 6) (v := .int (nI n)) (C := R_Corrections) (T := F_Corrections) (N := 6) hx hb ht i_Corrections hown hK.1 hP 0 rfl rfl 5 (by decide) (ht _ m_99) (fun _ h9 => h9) rfl d_Corrections_findOrAdd_60 ?_
      refine lv_bipush (v := 20) hx hb d_Corrections_findOrAdd_63 (by decide) ?_
      refine lv_icmp_lt (tgt := 70) hx hb d_Corrections_findOrAdd_65 (by decide) (fun c_2 => ?_) (fun c_2 => ?_)
      · have c_2 : n < 20 := (nI_ltI (a := n) (b := 20) (by omega) (by omega)).mp c_2
        have c_2n : ¬ 20 ≤ n := by omega
        refine lv_aload_n hx hb d_Corrections_findOrAdd_70 rfl (lv_at hl 1 rfl) ?_
        refine va_get (D := G.1) (ci := 6) (v := .ref (ad 0)) (C := R_Corrections) (T := F_Corrections) (N := 6) hx hb ht i_Corrections hown hK.1 hP 0 rfl rfl 0 (by decide) (ht _ m_93) (fun _ h9 => h9) rfl d_Corrections_findOrAdd_71 ?_
        refine lv_aload_n hx hb d_Corrections_findOrAdd_74 rfl (lv_at hl 1 rfl) ?_
        refine va_get (D := G.1) (ci := 6) (v := .int (nI n)) (C := R_Corrections) (T := F_Corrections) (N := 6) hx hb ht i_Corrections hown hK.1 hP 0 rfl rfl 5 (by decide) (ht _ m_99) (fun _ h9 => h9) rfl d_Corrections_findOrAdd_75 ?_
        refine lv_iload_n hx hb d_Corrections_findOrAdd_78 rfl (lv_at hl 2 rfl) ?_
        refine sy_iast hx hb hK.1 hP hD hS 1 0 rfl rfl (k := n) (by omega) (by decide) d_Corrections_findOrAdd_79 (fun H locs hP hD hS => ?_)
        have hP : va_P G.1 classes (cw G.2 h0 ad n (va_up fI 0 (upd (fI 0) n d)) fL) H := hP
        have hD : va_D A (cw G.2 h0 ad n (va_up fI 0 (upd (fI 0) n d)) fL) := hD
        refine lv_aload_n hx hb d_Corrections_findOrAdd_80 rfl (lv_at hl 1 rfl) ?_
        refine va_get (D := G.1) (ci := 6) (v := .ref (ad 1)) (C := R_Corrections) (T := F_Corrections) (N := 6) hx hb ht i_Corrections hown hK.1 hP 0 rfl rfl 1 (by decide) (ht _ m_94) (fun _ h9 => h9) rfl d_Corrections_findOrAdd_81 ?_
        refine lv_aload_n hx hb d_Corrections_findOrAdd_84 rfl (lv_at hl 1 rfl) ?_
        refine va_get (D := G.1) (ci := 6) (v := .int (nI n)) (C := R_Corrections) (T := F_Corrections) (N := 6) hx hb ht i_Corrections hown hK.1 hP 0 rfl rfl 5 (by decide) (ht _ m_99) (fun _ h9 => h9) rfl d_Corrections_findOrAdd_85 ?_
        refine lv_iload_n hx hb d_Corrections_findOrAdd_88 rfl (lv_at hl 3 rfl) ?_
        refine sy_iast hx hb hK.1 hP hD hS 2 0 rfl rfl (k := n) (by omega) (by decide) d_Corrections_findOrAdd_89 (fun H locs hP hD hS => ?_)
        have hP : va_P G.1 classes (cw G.2 h0 ad n (va_up (va_up fI 0 (upd (fI 0) n d)) 1 (upd (fI 1) n kd)) fL) H := hP
        have hD : va_D A (cw G.2 h0 ad n (va_up (va_up fI 0 (upd (fI 0) n d)) 1 (upd (fI 1) n kd)) fL) := hD
        refine lv_aload_n hx hb d_Corrections_findOrAdd_90 rfl (lv_at hl 1 rfl) ?_
        refine va_get (D := G.1) (ci := 6) (v := .ref (ad 2)) (C := R_Corrections) (T := F_Corrections) (N := 6) hx hb ht i_Corrections hown hK.1 hP 0 rfl rfl 2 (by decide) (ht _ m_95) (fun _ h9 => h9) rfl d_Corrections_findOrAdd_91 ?_
        refine lv_aload_n hx hb d_Corrections_findOrAdd_94 rfl (lv_at hl 1 rfl) ?_
        refine va_get (D := G.1) (ci := 6) (v := .int (nI n)) (C := R_Corrections) (T := F_Corrections) (N := 6) hx hb ht i_Corrections hown hK.1 hP 0 rfl rfl 5 (by decide) (ht _ m_99) (fun _ h9 => h9) rfl d_Corrections_findOrAdd_95 ?_
        refine lv_lload_n hx hb d_Corrections_findOrAdd_98 rfl (lv_at hl 4 rfl) ?_
        refine sy_last hx hb hK.1 hP hD hS 3 1 rfl rfl (k := n) (by omega) (by decide) d_Corrections_findOrAdd_99 (fun H locs hP hD hS => ?_)
        have hP : va_P G.1 classes (cw G.2 h0 ad n (va_up (va_up fI 0 (upd (fI 0) n d)) 1 (upd (fI 1) n kd)) (va_up fL 0 (vp_updL (fL 0) n se))) H := hP
        have hD : va_D A (cw G.2 h0 ad n (va_up (va_up fI 0 (upd (fI 0) n d)) 1 (upd (fI 1) n kd)) (va_up fL 0 (vp_updL (fL 0) n se))) := hD
        refine lv_aload_n hx hb d_Corrections_findOrAdd_100 rfl (lv_at hl 1 rfl) ?_
        refine va_get (D := G.1) (ci := 6) (v := .ref (ad 3)) (C := R_Corrections) (T := F_Corrections) (N := 6) hx hb ht i_Corrections hown hK.1 hP 0 rfl rfl 3 (by decide) (ht _ m_96) (fun _ h9 => h9) rfl d_Corrections_findOrAdd_101 ?_
        refine lv_aload_n hx hb d_Corrections_findOrAdd_104 rfl (lv_at hl 1 rfl) ?_
        refine va_get (D := G.1) (ci := 6) (v := .int (nI n)) (C := R_Corrections) (T := F_Corrections) (N := 6) hx hb ht i_Corrections hown hK.1 hP 0 rfl rfl 5 (by decide) (ht _ m_99) (fun _ h9 => h9) rfl d_Corrections_findOrAdd_105 ?_
        refine lv_lload hx hb d_Corrections_findOrAdd_108 (lv_at hl 5 rfl) ?_
        refine sy_last hx hb hK.1 hP hD hS 4 1 rfl rfl (k := n) (by omega) (by decide) d_Corrections_findOrAdd_110 (fun H locs hP hD hS => ?_)
        have hP : va_P G.1 classes (cw G.2 h0 ad n (va_up (va_up fI 0 (upd (fI 0) n d)) 1 (upd (fI 1) n kd)) (va_up (va_up fL 0 (vp_updL (fL 0) n se)) 1 (vp_updL (fL 1) n v))) H := hP
        have hD : va_D A (cw G.2 h0 ad n (va_up (va_up fI 0 (upd (fI 0) n d)) 1 (upd (fI 1) n kd)) (va_up (va_up fL 0 (vp_updL (fL 0) n se)) 1 (vp_updL (fL 1) n v))) := hD
        refine lv_aload_n hx hb d_Corrections_findOrAdd_111 rfl (lv_at hl 1 rfl) ?_
        refine va_get (D := G.1) (ci := 6) (v := .ref (ad 4)) (C := R_Corrections) (T := F_Corrections) (N := 6) hx hb ht i_Corrections hown hK.1 hP 0 rfl rfl 4 (by decide) (ht _ m_98) (fun _ h9 => h9) rfl d_Corrections_findOrAdd_112 ?_
        refine lv_aload_n hx hb d_Corrections_findOrAdd_115 rfl (lv_at hl 1 rfl) ?_
        refine va_get (D := G.1) (ci := 6) (v := .int (nI n)) (C := R_Corrections) (T := F_Corrections) (N := 6) hx hb ht i_Corrections hown hK.1 hP 0 rfl rfl 5 (by decide) (ht _ m_99) (fun _ h9 => h9) rfl d_Corrections_findOrAdd_116 ?_
        refine lv_lload hx hb d_Corrections_findOrAdd_119 (lv_at hl 6 rfl) ?_
        refine sy_last hx hb hK.1 hP hD hS 5 1 rfl rfl (k := n) (by omega) (by decide) d_Corrections_findOrAdd_121 (fun H locs hP hD hS => ?_)
        have hP : va_P G.1 classes (cw G.2 h0 ad n (va_up (va_up fI 0 (upd (fI 0) n d)) 1 (upd (fI 1) n kd)) (va_up (va_up (va_up fL 0 (vp_updL (fL 0) n se)) 1 (vp_updL (fL 1) n v)) 2 (vp_updL (fL 2) n wh))) H := hP
        have hD : va_D A (cw G.2 h0 ad n (va_up (va_up fI 0 (upd (fI 0) n d)) 1 (upd (fI 1) n kd)) (va_up (va_up (va_up fL 0 (vp_updL (fL 0) n se)) 1 (vp_updL (fL 1) n v)) 2 (vp_updL (fL 2) n wh))) := hD
        refine lv_aload_n hx hb d_Corrections_findOrAdd_122 rfl (lv_at hl 1 rfl) ?_
        refine lv_dup hx hb d_Corrections_findOrAdd_123 rfl ?_
        refine va_get (D := G.1) (ci := 6) (v := .int (nI n)) (C := R_Corrections) (T := F_Corrections) (N := 6) hx hb ht i_Corrections hown hK.1 hP 0 rfl rfl 5 (by decide) (ht _ m_99) (fun _ h9 => h9) rfl d_Corrections_findOrAdd_124 ?_
        refine lv_iconst (v := 1) hx hb d_Corrections_findOrAdd_127 (by decide) ?_
        refine lv_iadd hx hb d_Corrections_findOrAdd_128 ?_
        refine sy_ti (y := nI (n + 1)) (nI_add n 1) ?_
        refine va_put (D := G.1) (ci := 6) (v := .int (nI (n + 1))) (ty := .int) (C := R_Corrections) (T := F_Corrections) (N := 6) hx hb ht i_Corrections t_Corrections t_Corrections_ok n_Corrections hown hK.1 hP hD hS 0 rfl rfl 5 (by decide) (ht _ m_99) (fun _ h9 => h9) rfl (by decide +kernel) rfl rfl (Nat.le_of_ble_eq_true rfl) d_Corrections_findOrAdd_129 (fun H locs hP hD hS => ?_)
        have hP : va_P G.1 classes (cw G.2 h0 ad (n + 1) (va_up (va_up fI 0 (upd (fI 0) n d)) 1 (upd (fI 1) n kd)) (va_up (va_up (va_up fL 0 (vp_updL (fL 0) n se)) 1 (vp_updL (fL 1) n v)) 2 (vp_updL (fL 2) n wh))) H := hP
        have hD : va_D A (cw G.2 h0 ad (n + 1) (va_up (va_up fI 0 (upd (fI 0) n d)) 1 (upd (fI 1) n kd)) (va_up (va_up (va_up fL 0 (vp_updL (fL 0) n se)) 1 (vp_updL (fL 1) n v)) 2 (vp_updL (fL 2) n wh))) := hD
        refine lv_aload_n hx hb d_Corrections_findOrAdd_132 rfl (lv_at hl 1 rfl) ?_
        refine va_get (D := G.1) (ci := 6) (v := .int (nI (n + 1))) (C := R_Corrections) (T := F_Corrections) (N := 6) hx hb ht i_Corrections hown hK.1 hP 0 rfl rfl 5 (by decide) (ht _ m_99) (fun _ h9 => h9) rfl d_Corrections_findOrAdd_133 ?_
        refine lv_iconst (v := 1) hx hb d_Corrections_findOrAdd_136 (by decide) ?_
        refine lv_isub hx hb d_Corrections_findOrAdd_137 ?_
        refine sy_ti (y := nI ((n + 1) - 1)) (pk_sub (a := n + 1) (b := 1) (by omega)) ?_
        exact W.iret (v := nI ((n + 1) - 1)) hx hb hr (fun t ht hW => ⟨⟨nI ((n + 1) - 1), (n + 1, va_up (va_up fI 0 (upd (fI 0) n d)) 1 (upd (fI 1) n kd), va_up (va_up (va_up fL 0 (vp_updL (fL 0) n se)) 1 (vp_updL (fL 1) n v)) 2 (vp_updL (fL 2) n wh)), rfl, by first | (have e : nn_ff (co_eq fI fL d kd se v wh) n = some k := nn_ff_of (by omega) hI (by simp [co_eq, c_1, c_1n, c_2, c_2n]; done); constructor <;> simp [co_add, e, oI]; done) | (have e : nn_ff (co_eq fI fL d kd se v wh) n = none := (by rw [show n = k by omega]; exact hI); constructor <;> simp [co_add, co_put, e, oI, c_1, c_1n, c_2, c_2n]; done), by show va_P _ _ _ t.heap; rw [ht]; exact hP⟩, hS.F ht⟩) hS.2.2 d_Corrections_findOrAdd_138
      · have c_2 : ¬ n < 20 := fun h9 => c_2 ((nI_ltI (a := n) (b := 20) (by omega) (by omega)).mpr h9)
        have c_2n : 20 ≤ n := by omega
        refine lv_iconst (v := (-1)) hx hb d_Corrections_findOrAdd_68 (by decide) ?_
        exact W.iret (v := (-1 : Int32)) hx hb hr (fun t ht hW => ⟨⟨(-1 : Int32), (n, fI, fL), rfl, by first | (have e : nn_ff (co_eq fI fL d kd se v wh) n = some k := nn_ff_of (by omega) hI (by simp [co_eq, c_1, c_1n, c_2, c_2n]; done); constructor <;> simp [co_add, e, oI]; done) | (have e : nn_ff (co_eq fI fL d kd se v wh) n = none := (by rw [show n = k by omega]; exact hI); constructor <;> simp [co_add, co_put, e, oI, c_1, c_1n, c_2, c_2n]; done), by show va_P _ _ _ t.heap; rw [ht]; exact hP⟩, hS.F ht⟩) hS.2.2 d_Corrections_findOrAdd_69
    · have c_1 : ¬ n ≤ k := fun h9 => c_1 ((nI_leI (a := n) (b := k) (by omega) (by omega)).mpr h9)
      have c_1n : k < n := by omega
      refine lv_aload_n hx hb d_Corrections_findOrAdd_12 rfl (lv_at hl 1 rfl) ?_
      refine lv_iload hx hb d_Corrections_findOrAdd_13 (lv_at hl 0 rfl) ?_
      refine lv_iload_n hx hb d_Corrections_findOrAdd_15 rfl (lv_at hl 2 rfl) ?_
      refine lv_iload_n hx hb d_Corrections_findOrAdd_16 rfl (lv_at hl 3 rfl) ?_
      refine lv_lload_n hx hb d_Corrections_findOrAdd_17 rfl (lv_at hl 4 rfl) ?_
      refine vp_callSi (va_Run.run (sy_runV (As := [.int (nI k), .int d, .int kd, .long se]) (rest := []) (b := h0) ⟨hx, hb, hml, hown, ht⟩ cl_Corrections_32 (c_Corrections_isFor l G h0 ad n fI fL k d kd se (by omega)) hK hP (va_recv hK.1 hP (ci := 6) (q0 := 0) rfl rfl) rfl nm_Corrections_isFor rfl rfl ⟨Nat.le_of_ble_eq_true rfl, Nat.le_of_ble_eq_true rfl⟩ hl.1 (Nat.le_of_ble_eq_true rfl) d_Corrections_findOrAdd_18 ⟨Nat.zero_le _, Nat.zero_le _⟩)) (fun r_3 hr_3 => ?_)
      subst hr_3
      refine lv_if_eq (tgt := 53) hx hb d_Corrections_findOrAdd_21 (by decide) (fun c_4 => ?_) (fun c_4 => ?_)
      · have c_4 : (co_for fI fL d kd se k) = false := bI_f c_4
        refine lv_iinc (v := nI (k + 1)) (lv' := [(9, .int (nI (k + 1))), (0, .ref h0), (1, .int d), (2, .int kd), (3, .long se), (5, .long v), (7, .long wh)]) hx hb d_Corrections_findOrAdd_53 hl (k := 0) rfl (nI_add k 1) (by decide) rfl (fun ls hl => ?_)
        refine lv_goto (tgt := 3) hx hb d_Corrections_findOrAdd_56 (by decide) ?_
        refine ih3 (k + 1) ls (show n - (k + 1) < n - k by omega) ?_ (lv_sub hl [0, 1, 2, 3, 4, 5, 6] rfl)
        exact ⟨by omega, by simp [nn_ff, hI, co_eq, c_1, c_1n, c_4]⟩
      · have c_4 : (co_for fI fL d kd se k) = true := bI_t c_4
        refine lv_aload_n hx hb d_Corrections_findOrAdd_24 rfl (lv_at hl 1 rfl) ?_
        refine va_get (D := G.1) (ci := 6) (v := .ref (ad 3)) (C := R_Corrections) (T := F_Corrections) (N := 6) hx hb ht i_Corrections hown hK.1 hP 0 rfl rfl 3 (by decide) (ht _ m_96) (fun _ h9 => h9) rfl d_Corrections_findOrAdd_25 ?_
        refine lv_iload hx hb d_Corrections_findOrAdd_28 (lv_at hl 0 rfl) ?_
        refine sy_lald hx hb hK.1 hP 4 1 rfl rfl (k := k) (by omega) (by decide) d_Corrections_findOrAdd_30 ?_
        refine lv_lload hx hb d_Corrections_findOrAdd_31 (lv_at hl 5 rfl) ?_
        refine sy_lc_ne (tgt := 53) hx hb d_Corrections_findOrAdd_33 d_Corrections_findOrAdd_34 (by decide) (fun c_5 => ?_) (fun c_5 => ?_)
        · refine lv_iinc (v := nI (k + 1)) (lv' := [(9, .int (nI (k + 1))), (0, .ref h0), (1, .int d), (2, .int kd), (3, .long se), (5, .long v), (7, .long wh)]) hx hb d_Corrections_findOrAdd_53 hl (k := 0) rfl (nI_add k 1) (by decide) rfl (fun ls hl => ?_)
          refine lv_goto (tgt := 3) hx hb d_Corrections_findOrAdd_56 (by decide) ?_
          refine ih3 (k + 1) ls (show n - (k + 1) < n - k by omega) ?_ (lv_sub hl [0, 1, 2, 3, 4, 5, 6] rfl)
          exact ⟨by omega, by simp [nn_ff, hI, co_eq, c_1, c_1n, c_4, c_5]⟩
        · refine lv_aload_n hx hb d_Corrections_findOrAdd_37 rfl (lv_at hl 1 rfl) ?_
          refine va_get (D := G.1) (ci := 6) (v := .ref (ad 4)) (C := R_Corrections) (T := F_Corrections) (N := 6) hx hb ht i_Corrections hown hK.1 hP 0 rfl rfl 4 (by decide) (ht _ m_98) (fun _ h9 => h9) rfl d_Corrections_findOrAdd_38 ?_
          refine lv_iload hx hb d_Corrections_findOrAdd_41 (lv_at hl 0 rfl) ?_
          refine sy_lald hx hb hK.1 hP 5 1 rfl rfl (k := k) (by omega) (by decide) d_Corrections_findOrAdd_43 ?_
          refine lv_lload hx hb d_Corrections_findOrAdd_44 (lv_at hl 6 rfl) ?_
          refine sy_lc_ne (tgt := 53) hx hb d_Corrections_findOrAdd_46 d_Corrections_findOrAdd_47 (by decide) (fun c_6 => ?_) (fun c_6 => ?_)
          · refine lv_iinc (v := nI (k + 1)) (lv' := [(9, .int (nI (k + 1))), (0, .ref h0), (1, .int d), (2, .int kd), (3, .long se), (5, .long v), (7, .long wh)]) hx hb d_Corrections_findOrAdd_53 hl (k := 0) rfl (nI_add k 1) (by decide) rfl (fun ls hl => ?_)
            refine lv_goto (tgt := 3) hx hb d_Corrections_findOrAdd_56 (by decide) ?_
            refine ih3 (k + 1) ls (show n - (k + 1) < n - k by omega) ?_ (lv_sub hl [0, 1, 2, 3, 4, 5, 6] rfl)
            exact ⟨by omega, by simp [nn_ff, hI, co_eq, c_1, c_1n, c_4, c_5, c_6]⟩
          · refine lv_iload hx hb d_Corrections_findOrAdd_50 (lv_at hl 0 rfl) ?_
            exact W.iret (v := nI k) hx hb hr (fun t ht hW => ⟨⟨nI k, (n, fI, fL), rfl, by first | (have e : nn_ff (co_eq fI fL d kd se v wh) n = some k := nn_ff_of (by omega) hI (by simp [co_eq, c_1, c_1n, c_4, c_5, c_6]; done); constructor <;> simp [co_add, e, oI]; done) | (have e : nn_ff (co_eq fI fL d kd se v wh) n = none := (by rw [show n = k by omega]; exact hI); constructor <;> simp [co_add, co_put, e, oI, c_1, c_1n, c_4, c_5, c_6]; done), by show va_P _ _ _ t.heap; rw [ht]; exact hP⟩, hS.F ht⟩) hS.2.2 d_Corrections_findOrAdd_52
  · exact ⟨Nat.zero_le _, rfl⟩
set_option maxHeartbeats 4000000 in
set_option maxRecDepth 100000 in
theorem c_Clock_addMark (l : Launch) (G : sy_G) (h0 : Nat) (ad : Nat → Nat) (n : Nat) (fL : Nat → Nat → Int64) (x : Int64) (y : Int64) (hn : n ≤ 10) : Met l y_Clock_addMark (sy_w y_Clock_addMark b_Clock_addMark 5 (some .boolean)) { frames := 0, cells := 0, slots := 0, locals := 0 } (va_Pc [.ref h0, .long x, .long y] (sy_KP G (fun H => va_P G.1 classes (kw G.2 h0 ad n fL) H ∧ va_D (fun _ => True) (kw G.2 h0 ad n fL)))) (va_Qi (S := ck_S) (fun r u => r = bI (ck_add n fL x y).1 ∧ u = (ck_add n fL x y).2) (fun u t => va_P G.1 classes (kw G.2 h0 ad u.1 u.2) t.heap) (sy_A (kw G.2 h0 ad n fL))) 0 0 (sy_A (kw G.2 h0 ad n fL)) := by
  refine Met.ofW (cc := b_Clock_addMark) (maxL := 5) (ret := (some .boolean)) (by decide) rfl ?_
  intro p e s m args below meth c s₁ B hml hv
  obtain ⟨rfl, ⟨hP, hD0⟩, hK⟩ := hv
  have hx := B.exec
  have hb := B.bytes
  have hr := B.returns
  have hts := atoms_spec (ws := sy_w y_Clock_addMark b_Clock_addMark 5 (some .boolean)) B.pre
  have ht : ∀ wd ∈ sy_T, wd.before ([.ref h0, .long x, .long y] : List Value).toArray s = true := fun wd h => hts wd (List.mem_cons_of_mem _ h)
  have hown : s.vm.findClass R_Clock = some m.cls := findClass_of_methodNamed B.named
  have hlocks := B.notSynchronized
  have hD := sy_self hD0
  generalize hAe : sy_A (kw G.2 h0 ad n fL) = A at hD ⊢
  have hS : va_S A s.heap s.heap [] := va_S.rf
  have hl := lv_entry ([.ref h0, .long x, .long y]) (n := 5) (Nat.le_of_ble_eq_true rfl)
  rw [lg_entry_eq]
  generalize (lg_sl ([.ref h0, .long x, .long y]) ++ List.replicate (5 - (lg_sl ([.ref h0, .long x, .long y])).length) Slot.unset).toArray = ls at hl ⊢
  have hl : lv_has ls 5 [(0, .ref h0), (1, .long x), (3, .long y)] := hl
  refine lv_aload_n hx hb d_Clock_addMark_0 rfl (lv_at hl 0 rfl) ?_
  refine va_get (D := G.1) (ci := 2) (v := .int (nI n)) (C := R_Clock) (T := F_Clock) (N := 3) hx hb ht i_Clock hown hK.1 hP 0 rfl rfl 2 (by decide) (ht _ m_152) (fun _ h9 => h9) rfl d_Clock_addMark_1 ?_
  refine lv_bipush (v := 10) hx hb d_Clock_addMark_4 (by decide) ?_
  refine lv_icmp_lt (tgt := 11) hx hb d_Clock_addMark_6 (by decide) (fun c_1 => ?_) (fun c_1 => ?_)
  · have c_1 : n < 10 := (nI_ltI (a := n) (b := 10) (by omega) (by omega)).mp c_1
    have c_1n : ¬ 10 ≤ n := by omega
    refine lv_aload_n hx hb d_Clock_addMark_11 rfl (lv_at hl 0 rfl) ?_
    refine va_get (D := G.1) (ci := 2) (v := .int (nI n)) (C := R_Clock) (T := F_Clock) (N := 3) hx hb ht i_Clock hown hK.1 hP 0 rfl rfl 2 (by decide) (ht _ m_152) (fun _ h9 => h9) rfl d_Clock_addMark_12 ?_
    refine lv_if_le (tgt := 52) hx hb d_Clock_addMark_15 (by decide) (fun c_2 => ?_) (fun c_2 => ?_)
    · have c_2 : n ≤ 0 := (nI_leI (by omega) (by omega)).mp (by rw [nI_0]; exact c_2)
      have c_2n : ¬ 0 < n := by omega
      refine lv_aload_n hx hb d_Clock_addMark_52 rfl (lv_at hl 0 rfl) ?_
      refine va_get (D := G.1) (ci := 2) (v := .ref (ad 0)) (C := R_Clock) (T := F_Clock) (N := 3) hx hb ht i_Clock hown hK.1 hP 0 rfl rfl 0 (by decide) (ht _ m_150) (fun _ h9 => h9) rfl d_Clock_addMark_53 ?_
      refine lv_aload_n hx hb d_Clock_addMark_56 rfl (lv_at hl 0 rfl) ?_
      refine va_get (D := G.1) (ci := 2) (v := .int (nI n)) (C := R_Clock) (T := F_Clock) (N := 3) hx hb ht i_Clock hown hK.1 hP 0 rfl rfl 2 (by decide) (ht _ m_152) (fun _ h9 => h9) rfl d_Clock_addMark_57 ?_
      refine lv_lload_n hx hb d_Clock_addMark_60 rfl (lv_at hl 1 rfl) ?_
      refine sy_last hx hb hK.1 hP hD hS 1 1 rfl rfl (k := n) (by omega) (by decide) d_Clock_addMark_61 (fun H locs hP hD hS => ?_)
      have hP : va_P G.1 classes (kw G.2 h0 ad n (va_up fL 0 (vp_updL (fL 0) n x))) H := hP
      have hD : va_D A (kw G.2 h0 ad n (va_up fL 0 (vp_updL (fL 0) n x))) := hD
      refine lv_aload_n hx hb d_Clock_addMark_62 rfl (lv_at hl 0 rfl) ?_
      refine va_get (D := G.1) (ci := 2) (v := .ref (ad 1)) (C := R_Clock) (T := F_Clock) (N := 3) hx hb ht i_Clock hown hK.1 hP 0 rfl rfl 1 (by decide) (ht _ m_151) (fun _ h9 => h9) rfl d_Clock_addMark_63 ?_
      refine lv_aload_n hx hb d_Clock_addMark_66 rfl (lv_at hl 0 rfl) ?_
      refine va_get (D := G.1) (ci := 2) (v := .int (nI n)) (C := R_Clock) (T := F_Clock) (N := 3) hx hb ht i_Clock hown hK.1 hP 0 rfl rfl 2 (by decide) (ht _ m_152) (fun _ h9 => h9) rfl d_Clock_addMark_67 ?_
      refine lv_lload_n hx hb d_Clock_addMark_70 rfl (lv_at hl 2 rfl) ?_
      refine sy_last hx hb hK.1 hP hD hS 2 1 rfl rfl (k := n) (by omega) (by decide) d_Clock_addMark_71 (fun H locs hP hD hS => ?_)
      have hP : va_P G.1 classes (kw G.2 h0 ad n (va_up (va_up fL 0 (vp_updL (fL 0) n x)) 1 (vp_updL (fL 1) n y))) H := hP
      have hD : va_D A (kw G.2 h0 ad n (va_up (va_up fL 0 (vp_updL (fL 0) n x)) 1 (vp_updL (fL 1) n y))) := hD
      refine lv_aload_n hx hb d_Clock_addMark_72 rfl (lv_at hl 0 rfl) ?_
      refine lv_dup hx hb d_Clock_addMark_73 rfl ?_
      refine va_get (D := G.1) (ci := 2) (v := .int (nI n)) (C := R_Clock) (T := F_Clock) (N := 3) hx hb ht i_Clock hown hK.1 hP 0 rfl rfl 2 (by decide) (ht _ m_152) (fun _ h9 => h9) rfl d_Clock_addMark_74 ?_
      refine lv_iconst (v := 1) hx hb d_Clock_addMark_77 (by decide) ?_
      refine lv_iadd hx hb d_Clock_addMark_78 ?_
      refine sy_ti (y := nI (n + 1)) (nI_add n 1) ?_
      refine va_put (D := G.1) (ci := 2) (v := .int (nI (n + 1))) (ty := .int) (C := R_Clock) (T := F_Clock) (N := 3) hx hb ht i_Clock t_Clock t_Clock_ok n_Clock hown hK.1 hP hD hS 0 rfl rfl 2 (by decide) (ht _ m_152) (fun _ h9 => h9) rfl (by decide +kernel) rfl rfl (Nat.le_of_ble_eq_true rfl) d_Clock_addMark_79 (fun H locs hP hD hS => ?_)
      have hP : va_P G.1 classes (kw G.2 h0 ad (n + 1) (va_up (va_up fL 0 (vp_updL (fL 0) n x)) 1 (vp_updL (fL 1) n y))) H := hP
      have hD : va_D A (kw G.2 h0 ad (n + 1) (va_up (va_up fL 0 (vp_updL (fL 0) n x)) 1 (vp_updL (fL 1) n y))) := hD
      refine lv_iconst (v := 1) hx hb d_Clock_addMark_82 (by decide) ?_
      exact W.zret (v := (1 : Int32)) hx hb hr (rfl) (fun t ht hW => ⟨⟨(1 : Int32), (n + 1, va_up (va_up fL 0 (vp_updL (fL 0) n x)) 1 (vp_updL (fL 1) n y)), rfl, by constructor <;> simp [ck_add, bI, c_1, c_1n, c_2, c_2n], by show va_P _ _ _ t.heap; rw [ht]; exact hP⟩, hS.F ht⟩) hS.2.2 d_Clock_addMark_83
    · have c_2 : ¬ n ≤ 0 := fun h9 => c_2 (by rw [← nI_0]; exact (nI_leI (by omega) (by omega)).mpr h9)
      have c_2n : 0 < n := by omega
      refine lv_lload_n hx hb d_Clock_addMark_18 rfl (lv_at hl 1 rfl) ?_
      refine lv_aload_n hx hb d_Clock_addMark_19 rfl (lv_at hl 0 rfl) ?_
      refine va_get (D := G.1) (ci := 2) (v := .ref (ad 0)) (C := R_Clock) (T := F_Clock) (N := 3) hx hb ht i_Clock hown hK.1 hP 0 rfl rfl 0 (by decide) (ht _ m_150) (fun _ h9 => h9) rfl d_Clock_addMark_20 ?_
      refine lv_aload_n hx hb d_Clock_addMark_23 rfl (lv_at hl 0 rfl) ?_
      refine va_get (D := G.1) (ci := 2) (v := .int (nI n)) (C := R_Clock) (T := F_Clock) (N := 3) hx hb ht i_Clock hown hK.1 hP 0 rfl rfl 2 (by decide) (ht _ m_152) (fun _ h9 => h9) rfl d_Clock_addMark_24 ?_
      refine lv_iconst (v := 1) hx hb d_Clock_addMark_27 (by decide) ?_
      refine lv_isub hx hb d_Clock_addMark_28 ?_
      refine sy_ti (y := nI (n - 1)) (pk_sub (a := n) (b := 1) (by omega)) ?_
      refine sy_lald hx hb hK.1 hP 1 1 rfl rfl (k := n - 1) (by omega) (by decide) d_Clock_addMark_29 ?_
      refine sy_lc_le (tgt := 50) hx hb d_Clock_addMark_30 d_Clock_addMark_31 (by decide) (fun c_3 => ?_) (fun c_3 => ?_)
      · have c_3n := sy_c64 c_3
        refine lv_iconst (v := 0) hx hb d_Clock_addMark_50 (by decide) ?_
        exact W.zret (v := (0 : Int32)) hx hb hr (rfl) (fun t ht hW => ⟨⟨(0 : Int32), (n, fL), rfl, by constructor <;> simp [ck_add, bI, c_1, c_1n, c_2, c_2n, c_3, c_3n], by show va_P _ _ _ t.heap; rw [ht]; exact hP⟩, hS.F ht⟩) hS.2.2 d_Clock_addMark_51
      · have c_3n := sy_d64 c_3
        refine lv_lload_n hx hb d_Clock_addMark_34 rfl (lv_at hl 2 rfl) ?_
        refine lv_aload_n hx hb d_Clock_addMark_35 rfl (lv_at hl 0 rfl) ?_
        refine va_get (D := G.1) (ci := 2) (v := .ref (ad 1)) (C := R_Clock) (T := F_Clock) (N := 3) hx hb ht i_Clock hown hK.1 hP 0 rfl rfl 1 (by decide) (ht _ m_151) (fun _ h9 => h9) rfl d_Clock_addMark_36 ?_
        refine lv_aload_n hx hb d_Clock_addMark_39 rfl (lv_at hl 0 rfl) ?_
        refine va_get (D := G.1) (ci := 2) (v := .int (nI n)) (C := R_Clock) (T := F_Clock) (N := 3) hx hb ht i_Clock hown hK.1 hP 0 rfl rfl 2 (by decide) (ht _ m_152) (fun _ h9 => h9) rfl d_Clock_addMark_40 ?_
        refine lv_iconst (v := 1) hx hb d_Clock_addMark_43 (by decide) ?_
        refine lv_isub hx hb d_Clock_addMark_44 ?_
        refine sy_ti (y := nI (n - 1)) (pk_sub (a := n) (b := 1) (by omega)) ?_
        refine sy_lald hx hb hK.1 hP 2 1 rfl rfl (k := n - 1) (by omega) (by decide) d_Clock_addMark_45 ?_
        refine sy_lc_ge (tgt := 52) hx hb d_Clock_addMark_46 d_Clock_addMark_47 (by decide) (fun c_4 => ?_) (fun c_4 => ?_)
        · have c_4n := sy_c64 c_4
          refine lv_aload_n hx hb d_Clock_addMark_52 rfl (lv_at hl 0 rfl) ?_
          refine va_get (D := G.1) (ci := 2) (v := .ref (ad 0)) (C := R_Clock) (T := F_Clock) (N := 3) hx hb ht i_Clock hown hK.1 hP 0 rfl rfl 0 (by decide) (ht _ m_150) (fun _ h9 => h9) rfl d_Clock_addMark_53 ?_
          refine lv_aload_n hx hb d_Clock_addMark_56 rfl (lv_at hl 0 rfl) ?_
          refine va_get (D := G.1) (ci := 2) (v := .int (nI n)) (C := R_Clock) (T := F_Clock) (N := 3) hx hb ht i_Clock hown hK.1 hP 0 rfl rfl 2 (by decide) (ht _ m_152) (fun _ h9 => h9) rfl d_Clock_addMark_57 ?_
          refine lv_lload_n hx hb d_Clock_addMark_60 rfl (lv_at hl 1 rfl) ?_
          refine sy_last hx hb hK.1 hP hD hS 1 1 rfl rfl (k := n) (by omega) (by decide) d_Clock_addMark_61 (fun H locs hP hD hS => ?_)
          have hP : va_P G.1 classes (kw G.2 h0 ad n (va_up fL 0 (vp_updL (fL 0) n x))) H := hP
          have hD : va_D A (kw G.2 h0 ad n (va_up fL 0 (vp_updL (fL 0) n x))) := hD
          refine lv_aload_n hx hb d_Clock_addMark_62 rfl (lv_at hl 0 rfl) ?_
          refine va_get (D := G.1) (ci := 2) (v := .ref (ad 1)) (C := R_Clock) (T := F_Clock) (N := 3) hx hb ht i_Clock hown hK.1 hP 0 rfl rfl 1 (by decide) (ht _ m_151) (fun _ h9 => h9) rfl d_Clock_addMark_63 ?_
          refine lv_aload_n hx hb d_Clock_addMark_66 rfl (lv_at hl 0 rfl) ?_
          refine va_get (D := G.1) (ci := 2) (v := .int (nI n)) (C := R_Clock) (T := F_Clock) (N := 3) hx hb ht i_Clock hown hK.1 hP 0 rfl rfl 2 (by decide) (ht _ m_152) (fun _ h9 => h9) rfl d_Clock_addMark_67 ?_
          refine lv_lload_n hx hb d_Clock_addMark_70 rfl (lv_at hl 2 rfl) ?_
          refine sy_last hx hb hK.1 hP hD hS 2 1 rfl rfl (k := n) (by omega) (by decide) d_Clock_addMark_71 (fun H locs hP hD hS => ?_)
          have hP : va_P G.1 classes (kw G.2 h0 ad n (va_up (va_up fL 0 (vp_updL (fL 0) n x)) 1 (vp_updL (fL 1) n y))) H := hP
          have hD : va_D A (kw G.2 h0 ad n (va_up (va_up fL 0 (vp_updL (fL 0) n x)) 1 (vp_updL (fL 1) n y))) := hD
          refine lv_aload_n hx hb d_Clock_addMark_72 rfl (lv_at hl 0 rfl) ?_
          refine lv_dup hx hb d_Clock_addMark_73 rfl ?_
          refine va_get (D := G.1) (ci := 2) (v := .int (nI n)) (C := R_Clock) (T := F_Clock) (N := 3) hx hb ht i_Clock hown hK.1 hP 0 rfl rfl 2 (by decide) (ht _ m_152) (fun _ h9 => h9) rfl d_Clock_addMark_74 ?_
          refine lv_iconst (v := 1) hx hb d_Clock_addMark_77 (by decide) ?_
          refine lv_iadd hx hb d_Clock_addMark_78 ?_
          refine sy_ti (y := nI (n + 1)) (nI_add n 1) ?_
          refine va_put (D := G.1) (ci := 2) (v := .int (nI (n + 1))) (ty := .int) (C := R_Clock) (T := F_Clock) (N := 3) hx hb ht i_Clock t_Clock t_Clock_ok n_Clock hown hK.1 hP hD hS 0 rfl rfl 2 (by decide) (ht _ m_152) (fun _ h9 => h9) rfl (by decide +kernel) rfl rfl (Nat.le_of_ble_eq_true rfl) d_Clock_addMark_79 (fun H locs hP hD hS => ?_)
          have hP : va_P G.1 classes (kw G.2 h0 ad (n + 1) (va_up (va_up fL 0 (vp_updL (fL 0) n x)) 1 (vp_updL (fL 1) n y))) H := hP
          have hD : va_D A (kw G.2 h0 ad (n + 1) (va_up (va_up fL 0 (vp_updL (fL 0) n x)) 1 (vp_updL (fL 1) n y))) := hD
          refine lv_iconst (v := 1) hx hb d_Clock_addMark_82 (by decide) ?_
          exact W.zret (v := (1 : Int32)) hx hb hr (rfl) (fun t ht hW => ⟨⟨(1 : Int32), (n + 1, va_up (va_up fL 0 (vp_updL (fL 0) n x)) 1 (vp_updL (fL 1) n y)), rfl, by constructor <;> simp [ck_add, bI, c_1, c_1n, c_2, c_2n, c_3, c_3n, c_4, c_4n], by show va_P _ _ _ t.heap; rw [ht]; exact hP⟩, hS.F ht⟩) hS.2.2 d_Clock_addMark_83
        · have c_4n := sy_d64 c_4
          refine lv_iconst (v := 0) hx hb d_Clock_addMark_50 (by decide) ?_
          exact W.zret (v := (0 : Int32)) hx hb hr (rfl) (fun t ht hW => ⟨⟨(0 : Int32), (n, fL), rfl, by constructor <;> simp [ck_add, bI, c_1, c_1n, c_2, c_2n, c_3, c_3n, c_4, c_4n], by show va_P _ _ _ t.heap; rw [ht]; exact hP⟩, hS.F ht⟩) hS.2.2 d_Clock_addMark_51
  · have c_1 : ¬ n < 10 := fun h9 => c_1 ((nI_ltI (a := n) (b := 10) (by omega) (by omega)).mpr h9)
    have c_1n : 10 ≤ n := by omega
    refine lv_iconst (v := 0) hx hb d_Clock_addMark_9 (by decide) ?_
    exact W.zret (v := (0 : Int32)) hx hb hr (rfl) (fun t ht hW => ⟨⟨(0 : Int32), (n, fL), rfl, by constructor <;> simp [ck_add, bI, c_1, c_1n], by show va_P _ _ _ t.heap; rw [ht]; exact hP⟩, hS.F ht⟩) hS.2.2 d_Clock_addMark_10
