set_option maxHeartbeats 4000000 in
set_option maxRecDepth 100000 in
theorem c_Model_correct (l : Launch) (G : sy_G) (ob : Nat) (ad : Nat → Nat) (sc : Nat → Nat) (mI : Nat → Nat → Int32) (mL : Nat → Nat → Int64) (mZ : Nat → Nat → Bool) (d : Int32) (dv : Int32) (kd : Int32) (se : Int64) (v : Int64) (wh : Int64) (hs : sc 3 ≤ 6) (hd : sc 0 ≤ 4) (hc : sc 2 ≤ 20) : Met l y_Model_correct (sy_w y_Model_correct b_Model_correct 11 (some .boolean)) { frames := 1, cells := 0, slots := 0, locals := 25 } (va_Pc [.ref ob, .int d, .int dv, .int kd, .long se, .long v, .long wh] (sy_KP G (fun H => va_P G.1 classes (mw G.2 ob ad sc mI mL mZ) H ∧ va_D (fun _ => True) (mw G.2 ob ad sc mI mL mZ)))) (va_Qi (S := ms_S) (fun r u => r = bI (mo_correct sc mI mL mZ d dv kd se v wh).1 ∧ u = (mo_correct sc mI mL mZ d dv kd se v wh).2) (fun u t => va_P G.1 classes (mw G.2 ob ad u.1 u.2.1 u.2.2.1 u.2.2.2) t.heap) (sy_A (mw G.2 ob ad sc mI mL mZ))) 0 0 (sy_A (mw G.2 ob ad sc mI mL mZ)) := by
  refine Met.ofW (cc := b_Model_correct) (maxL := 11) (ret := (some .boolean)) (by decide) rfl ?_
  intro p e s m args below meth c s₁ B hml hv
  obtain ⟨rfl, ⟨hP, hD0⟩, hK⟩ := hv
  have hx := B.exec
  have hb := B.bytes
  have hr := B.returns
  have hts := atoms_spec (ws := sy_w y_Model_correct b_Model_correct 11 (some .boolean)) B.pre
  have ht : ∀ wd ∈ sy_T, wd.before ([.ref ob, .int d, .int dv, .int kd, .long se, .long v, .long wh] : List Value).toArray s = true := fun wd h => hts wd (List.mem_cons_of_mem _ h)
  have hown : s.vm.findClass R_Model = some m.cls := findClass_of_methodNamed B.named
  have hlocks := B.notSynchronized
  have hD := sy_self hD0
  generalize hAe : sy_A (mw G.2 ob ad sc mI mL mZ) = A at hD ⊢
  have hS : va_S A s.heap s.heap [] := va_S.rf
  have hl := lv_entry ([.ref ob, .int d, .int dv, .int kd, .long se, .long v, .long wh]) (n := 11) (Nat.le_of_ble_eq_true rfl)
  rw [lg_entry_eq]
  generalize (lg_sl ([.ref ob, .int d, .int dv, .int kd, .long se, .long v, .long wh]) ++ List.replicate (11 - (lg_sl ([.ref ob, .int d, .int dv, .int kd, .long se, .long v, .long wh])).length) Slot.unset).toArray = ls at hl ⊢
  have hl : lv_has ls 11 [(0, .ref ob), (1, .int d), (2, .int dv), (3, .int kd), (4, .long se), (6, .long v), (8, .long wh)] := hl
  refine lv_aload_n hx hb d_Model_correct_0 rfl (lv_at hl 0 rfl) ?_
  refine lv_iload_n hx hb d_Model_correct_1 rfl (lv_at hl 1 rfl) ?_
  refine vp_callSi (va_Run.run (sy_runV (As := [.int d]) (rest := []) (b := ob) ⟨hx, hb, hml, hown, ht⟩ cl_Model_96 (c_Model_isSet l G ob ad sc mI mL mZ d (by omega)) hK hP (va_recv hK.1 hP (ci := 7) (q0 := 0) rfl rfl) rfl nm_Model_isSet rfl rfl ⟨Nat.le_of_ble_eq_true rfl, Nat.le_of_ble_eq_true rfl⟩ hl.1 (Nat.le_of_ble_eq_true rfl) d_Model_correct_2 ⟨Nat.zero_le _, Nat.zero_le _⟩)) (fun r_1 hr_1 => ?_)
  subst hr_1
  refine lv_if_eq (tgt := 66) hx hb d_Model_correct_5 (by decide) (fun c_2 => ?_) (fun c_2 => ?_)
  · have c_2 : (mo_ok (sc 3) d) = false := bI_f c_2
    refine lv_iconst (v := 0) hx hb d_Model_correct_66 (by decide) ?_
    exact W.zret (v := (0 : Int32)) hx hb hr (rfl) (fun t ht hW => ⟨⟨(0 : Int32), (sc, mI, mL, mZ), rfl, by first | (exfalso; omega; done) | (constructor <;> simp [mo_correct, mo_cok, bI, c_2]; done) | (have h1 : ¬ mo_cok sc (nI zd) dv kd se v wh = false := (by simp [mo_cok, c_2]); first | (have e : nn_ff (mo_ce2 mL dv kd se v wh) (sc 2) = some k := nn_ff_of (by omega) hI (by simp [mo_ce2, c_2]; done); constructor <;> (rw [mo_correct, if_neg h1, e, hczd]; rfl)) | (have e : k = sc 2 := (by omega); subst e; constructor <;> (rw [mo_correct, if_neg h1, hI, hczd]; simp [mo_cv, mo_cw, bI, c_2]; done))), by show va_P _ _ _ t.heap; rw [ht]; exact hP⟩, hS.F ht⟩) hS.2.2 d_Model_correct_67
  · have c_2 : (mo_ok (sc 3) d) = true := bI_t c_2
    obtain ⟨zd, hzd, ezd⟩ := mo_ix (by omega) c_2
    subst ezd
    have hczd : (nI zd).toNatClampNeg = zd := nI_clamp (by omega)
    refine lv_aload_n hx hb d_Model_correct_8 rfl (lv_at hl 0 rfl) ?_
    refine lv_iload_n hx hb d_Model_correct_9 rfl (lv_at hl 2 rfl) ?_
    refine vp_callSi (va_Run.run (sy_runV (As := [.int dv]) (rest := []) (b := ob) ⟨hx, hb, hml, hown, ht⟩ cl_Model_73 (c_Model_isDevice l G ob ad sc mI mL mZ dv (by omega)) hK hP (va_recv hK.1 hP (ci := 7) (q0 := 0) rfl rfl) rfl nm_Model_isDevice rfl rfl ⟨Nat.le_of_ble_eq_true rfl, Nat.le_of_ble_eq_true rfl⟩ hl.1 (Nat.le_of_ble_eq_true rfl) d_Model_correct_10 ⟨Nat.zero_le _, Nat.zero_le _⟩)) (fun r_3 hr_3 => ?_)
    subst hr_3
    refine lv_if_eq (tgt := 66) hx hb d_Model_correct_13 (by decide) (fun c_4 => ?_) (fun c_4 => ?_)
    · have c_4 : (mo_ok (sc 0) dv) = false := bI_f c_4
      refine lv_iconst (v := 0) hx hb d_Model_correct_66 (by decide) ?_
      exact W.zret (v := (0 : Int32)) hx hb hr (rfl) (fun t ht hW => ⟨⟨(0 : Int32), (sc, mI, mL, mZ), rfl, by first | (exfalso; omega; done) | (constructor <;> simp [mo_correct, mo_cok, bI, c_2, hczd, c_4]; done) | (have h1 : ¬ mo_cok sc (nI zd) dv kd se v wh = false := (by simp [mo_cok, c_2, hczd, c_4]); first | (have e : nn_ff (mo_ce2 mL dv kd se v wh) (sc 2) = some k := nn_ff_of (by omega) hI (by simp [mo_ce2, c_2, hczd, c_4]; done); constructor <;> (rw [mo_correct, if_neg h1, e, hczd]; rfl)) | (have e : k = sc 2 := (by omega); subst e; constructor <;> (rw [mo_correct, if_neg h1, hI, hczd]; simp [mo_cv, mo_cw, bI, c_2, hczd, c_4]; done))), by show va_P _ _ _ t.heap; rw [ht]; exact hP⟩, hS.F ht⟩) hS.2.2 d_Model_correct_67
    · have c_4 : (mo_ok (sc 0) dv) = true := bI_t c_4
      refine lv_iload_n hx hb d_Model_correct_16 rfl (lv_at hl 3 rfl) ?_
      refine lv_i2l (v := kd.toInt64) hx hb d_Model_correct_17 rfl ?_
      refine lv_lconst (v := 0) hx hb d_Model_correct_18 (by decide) ?_
      refine lv_ldc2 (v := 3) hx hb hown (ht _ m_592) d_Model_correct_19 ?_
      refine vp_callSi (va_Run.run (sy_runS (As := [.long kd.toInt64, .long 0, .long 3]) (rest := []) ⟨hx, hb, hml, hown, ht⟩ cl_Model_79 (c_Model_isIn l G kd.toInt64 (0 : Int64) (3 : Int64)) hK trivial rfl nm_Model_isIn rfl rfl ⟨Nat.le_of_ble_eq_true rfl, Nat.le_of_ble_eq_true rfl⟩ hl.1 (Nat.le_of_ble_eq_true rfl) d_Model_correct_22 ⟨Nat.zero_le _, Nat.zero_le _⟩)) (fun r_5 hr_5 => ?_)
      subst hr_5
      refine lv_if_eq (tgt := 66) hx hb d_Model_correct_25 (by decide) (fun c_6 => ?_) (fun c_6 => ?_)
      · have c_6 : (mo_in kd.toInt64 (0 : Int64) (3 : Int64)) = false := bI_f c_6
        refine lv_iconst (v := 0) hx hb d_Model_correct_66 (by decide) ?_
        exact W.zret (v := (0 : Int32)) hx hb hr (rfl) (fun t ht hW => ⟨⟨(0 : Int32), (sc, mI, mL, mZ), rfl, by first | (exfalso; omega; done) | (constructor <;> simp [mo_correct, mo_cok, bI, c_2, hczd, c_4, c_6]; done) | (have h1 : ¬ mo_cok sc (nI zd) dv kd se v wh = false := (by simp [mo_cok, c_2, hczd, c_4, c_6]); first | (have e : nn_ff (mo_ce2 mL dv kd se v wh) (sc 2) = some k := nn_ff_of (by omega) hI (by simp [mo_ce2, c_2, hczd, c_4, c_6]; done); constructor <;> (rw [mo_correct, if_neg h1, e, hczd]; rfl)) | (have e : k = sc 2 := (by omega); subst e; constructor <;> (rw [mo_correct, if_neg h1, hI, hczd]; simp [mo_cv, mo_cw, bI, c_2, hczd, c_4, c_6]; done))), by show va_P _ _ _ t.heap; rw [ht]; exact hP⟩, hS.F ht⟩) hS.2.2 d_Model_correct_67
      · have c_6 : (mo_in kd.toInt64 (0 : Int64) (3 : Int64)) = true := bI_t c_6
        refine lv_lload hx hb d_Model_correct_28 (lv_at hl 4 rfl) ?_
        refine lv_lconst (v := 0) hx hb d_Model_correct_30 (by decide) ?_
        refine lv_ldc2 (v := 1000000) hx hb hown (ht _ m_588) d_Model_correct_31 ?_
        refine vp_callSi (va_Run.run (sy_runS (As := [.long se, .long 0, .long 1000000]) (rest := []) ⟨hx, hb, hml, hown, ht⟩ cl_Model_79 (c_Model_isIn l G se (0 : Int64) (1000000 : Int64)) hK trivial rfl nm_Model_isIn rfl rfl ⟨Nat.le_of_ble_eq_true rfl, Nat.le_of_ble_eq_true rfl⟩ hl.1 (Nat.le_of_ble_eq_true rfl) d_Model_correct_34 ⟨Nat.zero_le _, Nat.zero_le _⟩)) (fun r_7 hr_7 => ?_)
        subst hr_7
        refine lv_if_eq (tgt := 66) hx hb d_Model_correct_37 (by decide) (fun c_8 => ?_) (fun c_8 => ?_)
        · have c_8 : (mo_in se (0 : Int64) (1000000 : Int64)) = false := bI_f c_8
          refine lv_iconst (v := 0) hx hb d_Model_correct_66 (by decide) ?_
          exact W.zret (v := (0 : Int32)) hx hb hr (rfl) (fun t ht hW => ⟨⟨(0 : Int32), (sc, mI, mL, mZ), rfl, by first | (exfalso; omega; done) | (constructor <;> simp [mo_correct, mo_cok, bI, c_2, hczd, c_4, c_6, c_8]; done) | (have h1 : ¬ mo_cok sc (nI zd) dv kd se v wh = false := (by simp [mo_cok, c_2, hczd, c_4, c_6, c_8]); first | (have e : nn_ff (mo_ce2 mL dv kd se v wh) (sc 2) = some k := nn_ff_of (by omega) hI (by simp [mo_ce2, c_2, hczd, c_4, c_6, c_8]; done); constructor <;> (rw [mo_correct, if_neg h1, e, hczd]; rfl)) | (have e : k = sc 2 := (by omega); subst e; constructor <;> (rw [mo_correct, if_neg h1, hI, hczd]; simp [mo_cv, mo_cw, bI, c_2, hczd, c_4, c_6, c_8]; done))), by show va_P _ _ _ t.heap; rw [ht]; exact hP⟩, hS.F ht⟩) hS.2.2 d_Model_correct_67
        · have c_8 : (mo_in se (0 : Int64) (1000000 : Int64)) = true := bI_t c_8
          refine lv_lload hx hb d_Model_correct_40 (lv_at hl 5 rfl) ?_
          refine lv_ldc2 (v := (-1000000000)) hx hb hown (ht _ m_593) d_Model_correct_42 ?_
          refine lv_ldc2 (v := 1000000000) hx hb hown (ht _ m_594) d_Model_correct_45 ?_
          refine vp_callSi (va_Run.run (sy_runS (As := [.long v, .long (-1000000000), .long 1000000000]) (rest := []) ⟨hx, hb, hml, hown, ht⟩ cl_Model_79 (c_Model_isIn l G v (-1000000000 : Int64) (1000000000 : Int64)) hK trivial rfl nm_Model_isIn rfl rfl ⟨Nat.le_of_ble_eq_true rfl, Nat.le_of_ble_eq_true rfl⟩ hl.1 (Nat.le_of_ble_eq_true rfl) d_Model_correct_48 ⟨Nat.zero_le _, Nat.zero_le _⟩)) (fun r_9 hr_9 => ?_)
          subst hr_9
          refine lv_if_eq (tgt := 66) hx hb d_Model_correct_51 (by decide) (fun c_10 => ?_) (fun c_10 => ?_)
          · have c_10 : (mo_in v (-1000000000 : Int64) (1000000000 : Int64)) = false := bI_f c_10
            refine lv_iconst (v := 0) hx hb d_Model_correct_66 (by decide) ?_
            exact W.zret (v := (0 : Int32)) hx hb hr (rfl) (fun t ht hW => ⟨⟨(0 : Int32), (sc, mI, mL, mZ), rfl, by first | (exfalso; omega; done) | (constructor <;> simp [mo_correct, mo_cok, bI, c_2, hczd, c_4, c_6, c_8, c_10]; done) | (have h1 : ¬ mo_cok sc (nI zd) dv kd se v wh = false := (by simp [mo_cok, c_2, hczd, c_4, c_6, c_8, c_10]); first | (have e : nn_ff (mo_ce2 mL dv kd se v wh) (sc 2) = some k := nn_ff_of (by omega) hI (by simp [mo_ce2, c_2, hczd, c_4, c_6, c_8, c_10]; done); constructor <;> (rw [mo_correct, if_neg h1, e, hczd]; rfl)) | (have e : k = sc 2 := (by omega); subst e; constructor <;> (rw [mo_correct, if_neg h1, hI, hczd]; simp [mo_cv, mo_cw, bI, c_2, hczd, c_4, c_6, c_8, c_10]; done))), by show va_P _ _ _ t.heap; rw [ht]; exact hP⟩, hS.F ht⟩) hS.2.2 d_Model_correct_67
          · have c_10 : (mo_in v (-1000000000 : Int64) (1000000000 : Int64)) = true := bI_t c_10
            refine lv_lload hx hb d_Model_correct_54 (lv_at hl 6 rfl) ?_
            refine lv_lconst (v := 0) hx hb d_Model_correct_56 (by decide) ?_
            refine lv_ldc2 (v := 1000000) hx hb hown (ht _ m_588) d_Model_correct_57 ?_
            refine vp_callSi (va_Run.run (sy_runS (As := [.long wh, .long 0, .long 1000000]) (rest := []) ⟨hx, hb, hml, hown, ht⟩ cl_Model_79 (c_Model_isIn l G wh (0 : Int64) (1000000 : Int64)) hK trivial rfl nm_Model_isIn rfl rfl ⟨Nat.le_of_ble_eq_true rfl, Nat.le_of_ble_eq_true rfl⟩ hl.1 (Nat.le_of_ble_eq_true rfl) d_Model_correct_60 ⟨Nat.zero_le _, Nat.zero_le _⟩)) (fun r_11 hr_11 => ?_)
            subst hr_11
            refine lv_if_ne (tgt := 68) hx hb d_Model_correct_63 (by decide) (fun c_12 => ?_) (fun c_12 => ?_)
            · have c_12 : (mo_in wh (0 : Int64) (1000000 : Int64)) = true := bI_t c_12
              refine lv_iconst (v := 0) hx hb d_Model_correct_68 (by decide) ?_
              refine lv_istore (lv' := [(10, .int 0), (0, .ref ob), (1, .int (nI zd)), (2, .int dv), (3, .int kd), (4, .long se), (6, .long v), (8, .long wh)]) hx hb d_Model_correct_69 hl (by decide) rfl (fun ls hl => ?_)
              refine sy_loop (σ := Nat) (nL := 11) (fun k => sc 2 - k) (fun k => [(10, .int (nI k)), (0, .ref ob), (1, .int (nI zd)), (2, .int dv), (3, .int kd), (4, .long se), (6, .long v), (8, .long wh)]) (fun k => k ≤ sc 2 ∧ nn_ff (mo_ce2 mL dv kd se v wh) k = none) ?_ 0 ?_ (lv_sub hl [0, 1, 2, 3, 4, 5, 6, 7] rfl)
              · intro k ls hI hl ih71
                have hl : lv_has ls 11 [(10, .int (nI k)), (0, .ref ob), (1, .int (nI zd)), (2, .int dv), (3, .int kd), (4, .long se), (6, .long v), (8, .long wh)] := hl
                obtain ⟨hk, hI⟩ := hI
                refine lv_iload hx hb d_Model_correct_71 (lv_at hl 0 rfl) ?_
                refine lv_aload_n hx hb d_Model_correct_73 rfl (lv_at hl 1 rfl) ?_
                refine va_get (D := G.1) (ci := 7) (v := .int (nI (sc 2))) (C := R_Model) (T := F_Model) (N := 23) hx hb ht i_Model hown hK.1 hP 0 rfl rfl 11 (by decide) (ht _ m_516) (fun _ h9 => h9) rfl d_Model_correct_74 ?_
                refine lv_icmp_ge (tgt := 169) hx hb d_Model_correct_77 (by decide) (fun c_13 => ?_) (fun c_13 => ?_)
                · have c_13 : (sc 2) ≤ k := (nI_leI (a := sc 2) (b := k) (by omega) (by omega)).mp c_13
                  have c_13n : ¬ k < (sc 2) := by omega
                  refine lv_iload hx hb d_Model_correct_169 (lv_at hl 0 rfl) ?_
                  refine lv_bipush (v := 20) hx hb d_Model_correct_171 (by decide) ?_
                  refine lv_icmp_ne (tgt := 178) hx hb d_Model_correct_173 (by decide) (fun c_14 => ?_) (fun c_14 => ?_)
                  · have c_14 : ¬ k = 20 := fun h9 => c_14 ((nI_eq (a := k) (b := 20) (by omega) (by omega)).mpr h9)
                    refine lv_aload_n hx hb d_Model_correct_178 rfl (lv_at hl 1 rfl) ?_
                    refine va_get (D := G.1) (ci := 7) (v := .ref (ad 9)) (C := R_Model) (T := F_Model) (N := 23) hx hb ht i_Model hown hK.1 hP 0 rfl rfl 12 (by decide) (ht _ m_517) (fun _ h9 => h9) rfl d_Model_correct_179 ?_
                    refine lv_iconst (v := 5) hx hb d_Model_correct_182 (by decide) ?_
                    refine lv_iload hx hb d_Model_correct_183 (lv_at hl 0 rfl) ?_
                    refine lv_imul hx hb d_Model_correct_185 ?_
                    refine sy_ti (y := nI (5 * k)) (pk_mul 5 k) ?_
                    refine lv_iload_n hx hb d_Model_correct_186 rfl (lv_at hl 3 rfl) ?_
                    refine lv_i2l (v := dv.toInt64) hx hb d_Model_correct_187 rfl ?_
                    refine sy_last hx hb hK.1 hP hD hS 10 1 rfl rfl (k := 5 * k) (by omega) (by decide) d_Model_correct_188 (fun H locs hP hD hS => ?_)
                    rw [mw_s9] at hP hD
                    refine lv_aload_n hx hb d_Model_correct_189 rfl (lv_at hl 1 rfl) ?_
                    refine va_get (D := G.1) (ci := 7) (v := .ref (ad 9)) (C := R_Model) (T := F_Model) (N := 23) hx hb ht i_Model hown hK.1 hP 0 rfl rfl 12 (by decide) (ht _ m_517) (fun _ h9 => h9) rfl d_Model_correct_190 ?_
                    refine lv_iconst (v := 5) hx hb d_Model_correct_193 (by decide) ?_
                    refine lv_iload hx hb d_Model_correct_194 (lv_at hl 0 rfl) ?_
                    refine lv_imul hx hb d_Model_correct_196 ?_
                    refine sy_ti (y := nI (5 * k)) (pk_mul 5 k) ?_
                    refine lv_iconst (v := 1) hx hb d_Model_correct_197 (by decide) ?_
                    refine lv_iadd hx hb d_Model_correct_198 ?_
                    refine sy_ti (y := nI ((5 * k) + 1)) (nI_add (5 * k) 1) ?_
                    refine lv_iload_n hx hb d_Model_correct_199 rfl (lv_at hl 4 rfl) ?_
                    refine lv_i2l (v := kd.toInt64) hx hb d_Model_correct_200 rfl ?_
                    refine sy_last hx hb hK.1 hP hD hS 10 1 rfl rfl (k := (5 * k) + 1) (by omega) (by decide) d_Model_correct_201 (fun H locs hP hD hS => ?_)
                    rw [show (va_up mL 9 (vp_updL (mL 9) (5 * k) dv.toInt64)) 9 = vp_updL (mL 9) (5 * k) dv.toInt64 from rfl, mw_s9, bx_uu] at hP hD
                    refine lv_aload_n hx hb d_Model_correct_202 rfl (lv_at hl 1 rfl) ?_
                    refine va_get (D := G.1) (ci := 7) (v := .ref (ad 9)) (C := R_Model) (T := F_Model) (N := 23) hx hb ht i_Model hown hK.1 hP 0 rfl rfl 12 (by decide) (ht _ m_517) (fun _ h9 => h9) rfl d_Model_correct_203 ?_
                    refine lv_iconst (v := 5) hx hb d_Model_correct_206 (by decide) ?_
                    refine lv_iload hx hb d_Model_correct_207 (lv_at hl 0 rfl) ?_
                    refine lv_imul hx hb d_Model_correct_209 ?_
                    refine sy_ti (y := nI (5 * k)) (pk_mul 5 k) ?_
                    refine lv_iconst (v := 2) hx hb d_Model_correct_210 (by decide) ?_
                    refine lv_iadd hx hb d_Model_correct_211 ?_
                    refine sy_ti (y := nI ((5 * k) + 2)) (nI_add (5 * k) 2) ?_
                    refine lv_lload hx hb d_Model_correct_212 (lv_at hl 5 rfl) ?_
                    refine sy_last hx hb hK.1 hP hD hS 10 1 rfl rfl (k := (5 * k) + 2) (by omega) (by decide) d_Model_correct_214 (fun H locs hP hD hS => ?_)
                    rw [show (va_up mL 9 (vp_updL (vp_updL (mL 9) (5 * k) dv.toInt64) ((5 * k) + 1) kd.toInt64)) 9 = vp_updL (vp_updL (mL 9) (5 * k) dv.toInt64) ((5 * k) + 1) kd.toInt64 from rfl, mw_s9, bx_uu] at hP hD
                    refine lv_aload_n hx hb d_Model_correct_215 rfl (lv_at hl 1 rfl) ?_
                    refine va_get (D := G.1) (ci := 7) (v := .ref (ad 9)) (C := R_Model) (T := F_Model) (N := 23) hx hb ht i_Model hown hK.1 hP 0 rfl rfl 12 (by decide) (ht _ m_517) (fun _ h9 => h9) rfl d_Model_correct_216 ?_
                    refine lv_iconst (v := 5) hx hb d_Model_correct_219 (by decide) ?_
                    refine lv_iload hx hb d_Model_correct_220 (lv_at hl 0 rfl) ?_
                    refine lv_imul hx hb d_Model_correct_222 ?_
                    refine sy_ti (y := nI (5 * k)) (pk_mul 5 k) ?_
                    refine lv_iconst (v := 3) hx hb d_Model_correct_223 (by decide) ?_
                    refine lv_iadd hx hb d_Model_correct_224 ?_
                    refine sy_ti (y := nI ((5 * k) + 3)) (nI_add (5 * k) 3) ?_
                    refine lv_lload hx hb d_Model_correct_225 (lv_at hl 6 rfl) ?_
                    refine sy_last hx hb hK.1 hP hD hS 10 1 rfl rfl (k := (5 * k) + 3) (by omega) (by decide) d_Model_correct_227 (fun H locs hP hD hS => ?_)
                    rw [show (va_up mL 9 (vp_updL (vp_updL (vp_updL (mL 9) (5 * k) dv.toInt64) ((5 * k) + 1) kd.toInt64) ((5 * k) + 2) se)) 9 = vp_updL (vp_updL (vp_updL (mL 9) (5 * k) dv.toInt64) ((5 * k) + 1) kd.toInt64) ((5 * k) + 2) se from rfl, mw_s9, bx_uu] at hP hD
                    refine lv_aload_n hx hb d_Model_correct_228 rfl (lv_at hl 1 rfl) ?_
                    refine va_get (D := G.1) (ci := 7) (v := .ref (ad 9)) (C := R_Model) (T := F_Model) (N := 23) hx hb ht i_Model hown hK.1 hP 0 rfl rfl 12 (by decide) (ht _ m_517) (fun _ h9 => h9) rfl d_Model_correct_229 ?_
                    refine lv_iconst (v := 5) hx hb d_Model_correct_232 (by decide) ?_
                    refine lv_iload hx hb d_Model_correct_233 (lv_at hl 0 rfl) ?_
                    refine lv_imul hx hb d_Model_correct_235 ?_
                    refine sy_ti (y := nI (5 * k)) (pk_mul 5 k) ?_
                    refine lv_iconst (v := 4) hx hb d_Model_correct_236 (by decide) ?_
                    refine lv_iadd hx hb d_Model_correct_237 ?_
                    refine sy_ti (y := nI ((5 * k) + 4)) (nI_add (5 * k) 4) ?_
                    refine lv_lload hx hb d_Model_correct_238 (lv_at hl 7 rfl) ?_
                    refine sy_last hx hb hK.1 hP hD hS 10 1 rfl rfl (k := (5 * k) + 4) (by omega) (by decide) d_Model_correct_240 (fun H locs hP hD hS => ?_)
                    rw [show (va_up mL 9 (vp_updL (vp_updL (vp_updL (vp_updL (mL 9) (5 * k) dv.toInt64) ((5 * k) + 1) kd.toInt64) ((5 * k) + 2) se) ((5 * k) + 3) v)) 9 = vp_updL (vp_updL (vp_updL (vp_updL (mL 9) (5 * k) dv.toInt64) ((5 * k) + 1) kd.toInt64) ((5 * k) + 2) se) ((5 * k) + 3) v from rfl, mw_s9, bx_uu] at hP hD
                    refine lv_aload_n hx hb d_Model_correct_241 rfl (lv_at hl 1 rfl) ?_
                    refine lv_iload hx hb d_Model_correct_242 (lv_at hl 0 rfl) ?_
                    refine lv_aload_n hx hb d_Model_correct_244 rfl (lv_at hl 1 rfl) ?_
                    refine va_get (D := G.1) (ci := 7) (v := .int (nI (sc 2))) (C := R_Model) (T := F_Model) (N := 23) hx hb ht i_Model hown hK.1 hP 0 rfl rfl 11 (by decide) (ht _ m_516) (fun _ h9 => h9) rfl d_Model_correct_245 ?_
                    refine lv_icmp_ne (tgt := 260) hx hb d_Model_correct_248 (by decide) (fun c_15 => ?_) (fun c_15 => ?_)
                    · have c_15 : ¬ k = (sc 2) := fun h9 => c_15 ((nI_eq (a := k) (b := sc 2) (by omega) (by omega)).mpr h9)
                      refine lv_aload_n hx hb d_Model_correct_260 rfl (lv_at hl 1 rfl) ?_
                      refine va_get (D := G.1) (ci := 7) (v := .int (nI (sc 2))) (C := R_Model) (T := F_Model) (N := 23) hx hb ht i_Model hown hK.1 hP 0 rfl rfl 11 (by decide) (ht _ m_516) (fun _ h9 => h9) rfl d_Model_correct_261 ?_
                      refine va_put (D := G.1) (ci := 7) (v := .int (nI (sc 2))) (ty := .int) (C := R_Model) (T := F_Model) (N := 23) hx hb ht i_Model t_Model t_Model_ok n_Model hown hK.1 hP hD hS 0 rfl rfl 11 (by decide) (ht _ m_516) (fun _ h9 => h9) rfl (by decide +kernel) rfl rfl (Nat.le_of_ble_eq_true rfl) d_Model_correct_264 (fun H locs hP hD hS => ?_)
                      have hP : va_P G.1 classes (mw G.2 ob ad sc mI (va_up mL 9 (vp_updL (vp_updL (vp_updL (vp_updL (vp_updL (mL 9) (5 * k) dv.toInt64) ((5 * k) + 1) kd.toInt64) ((5 * k) + 2) se) ((5 * k) + 3) v) ((5 * k) + 4) wh)) mZ) H := hP
                      have hD : va_D A (mw G.2 ob ad sc mI (va_up mL 9 (vp_updL (vp_updL (vp_updL (vp_updL (vp_updL (mL 9) (5 * k) dv.toInt64) ((5 * k) + 1) kd.toInt64) ((5 * k) + 2) se) ((5 * k) + 3) v) ((5 * k) + 4) wh)) mZ) := hD
                      refine lv_aload_n hx hb d_Model_correct_267 rfl (lv_at hl 1 rfl) ?_
                      refine va_get (D := G.1) (ci := 7) (v := .ref (ad 12)) (C := R_Model) (T := F_Model) (N := 23) hx hb ht i_Model hown hK.1 hP 0 rfl rfl 17 (by decide) (ht _ m_522) (fun _ h9 => h9) rfl d_Model_correct_268 ?_
                      refine lv_bipush (v := 20) hx hb d_Model_correct_271 (by decide) ?_
                      refine lv_iload_n hx hb d_Model_correct_273 rfl (lv_at hl 2 rfl) ?_
                      refine lv_imul hx hb d_Model_correct_274 ?_
                      refine sy_ti (y := nI (20 * zd)) (pk_mul 20 zd) ?_
                      refine lv_iload hx hb d_Model_correct_275 (lv_at hl 0 rfl) ?_
                      refine lv_iadd hx hb d_Model_correct_277 ?_
                      refine sy_ti (y := nI ((20 * zd) + k)) (nI_add (20 * zd) k) ?_
                      refine lv_iconst (v := 1) hx hb d_Model_correct_278 (by decide) ?_
                      refine sy_zast hx hb hK.1 hP hD hS 13 2 rfl rfl (k := (20 * zd) + k) (b := true) (by omega) (by decide) d_Model_correct_279 (fun H locs hP hD hS => ?_)
                      rw [mw_s12] at hP hD
                      refine lv_iconst (v := 1) hx hb d_Model_correct_280 (by decide) ?_
                      exact W.zret (v := (1 : Int32)) hx hb hr (rfl) (fun t ht hW => ⟨⟨(1 : Int32), (sc, mI, va_up mL 9 (vp_updL (vp_updL (vp_updL (vp_updL (vp_updL (mL 9) (5 * k) dv.toInt64) ((5 * k) + 1) kd.toInt64) ((5 * k) + 2) se) ((5 * k) + 3) v) ((5 * k) + 4) wh), va_up mZ 12 (va_up (mZ 12) ((20 * zd) + k) true)), rfl, by first | (exfalso; omega; done) | (constructor <;> simp [mo_correct, mo_cok, bI, c_2, hczd, c_4, c_6, c_8, c_10, c_12, c_13, c_13n, c_14, c_15]; done) | (have h1 : ¬ mo_cok sc (nI zd) dv kd se v wh = false := (by simp [mo_cok, c_2, hczd, c_4, c_6, c_8, c_10, c_12, c_13, c_13n, c_14, c_15]); first | (have e : nn_ff (mo_ce2 mL dv kd se v wh) (sc 2) = some k := nn_ff_of (by omega) hI (by simp [mo_ce2, c_13, c_13n, c_14, c_15]; done); constructor <;> (rw [mo_correct, if_neg h1, e, hczd]; rfl)) | (have e : k = sc 2 := (by omega); subst e; constructor <;> (rw [mo_correct, if_neg h1, hI, hczd]; simp [mo_cv, mo_cw, bI, c_13, c_13n, c_14, c_15]; done))), by show va_P _ _ _ t.heap; rw [ht]; exact hP⟩, hS.F ht⟩) hS.2.2 d_Model_correct_281
                    · have c_15 : k = (sc 2) := (nI_eq (a := k) (b := sc 2) (by omega) (by omega)).mp c_15
                      refine lv_aload_n hx hb d_Model_correct_251 rfl (lv_at hl 1 rfl) ?_
                      refine va_get (D := G.1) (ci := 7) (v := .int (nI (sc 2))) (C := R_Model) (T := F_Model) (N := 23) hx hb ht i_Model hown hK.1 hP 0 rfl rfl 11 (by decide) (ht _ m_516) (fun _ h9 => h9) rfl d_Model_correct_252 ?_
                      refine lv_iconst (v := 1) hx hb d_Model_correct_255 (by decide) ?_
                      refine lv_iadd hx hb d_Model_correct_256 ?_
                      refine sy_ti (y := nI ((sc 2) + 1)) (nI_add (sc 2) 1) ?_
                      refine lv_goto (tgt := 264) hx hb d_Model_correct_257 (by decide) ?_
                      refine va_put (D := G.1) (ci := 7) (v := .int (nI ((sc 2) + 1))) (ty := .int) (C := R_Model) (T := F_Model) (N := 23) hx hb ht i_Model t_Model t_Model_ok n_Model hown hK.1 hP hD hS 0 rfl rfl 11 (by decide) (ht _ m_516) (fun _ h9 => h9) rfl (by decide +kernel) rfl rfl (Nat.le_of_ble_eq_true rfl) d_Model_correct_264 (fun H locs hP hD hS => ?_)
                      have hP : va_P G.1 classes (mw G.2 ob ad (va_up sc 2 ((sc 2) + 1)) mI (va_up mL 9 (vp_updL (vp_updL (vp_updL (vp_updL (vp_updL (mL 9) (5 * k) dv.toInt64) ((5 * k) + 1) kd.toInt64) ((5 * k) + 2) se) ((5 * k) + 3) v) ((5 * k) + 4) wh)) mZ) H := hP
                      have hD : va_D A (mw G.2 ob ad (va_up sc 2 ((sc 2) + 1)) mI (va_up mL 9 (vp_updL (vp_updL (vp_updL (vp_updL (vp_updL (mL 9) (5 * k) dv.toInt64) ((5 * k) + 1) kd.toInt64) ((5 * k) + 2) se) ((5 * k) + 3) v) ((5 * k) + 4) wh)) mZ) := hD
                      refine lv_aload_n hx hb d_Model_correct_267 rfl (lv_at hl 1 rfl) ?_
                      refine va_get (D := G.1) (ci := 7) (v := .ref (ad 12)) (C := R_Model) (T := F_Model) (N := 23) hx hb ht i_Model hown hK.1 hP 0 rfl rfl 17 (by decide) (ht _ m_522) (fun _ h9 => h9) rfl d_Model_correct_268 ?_
                      refine lv_bipush (v := 20) hx hb d_Model_correct_271 (by decide) ?_
                      refine lv_iload_n hx hb d_Model_correct_273 rfl (lv_at hl 2 rfl) ?_
                      refine lv_imul hx hb d_Model_correct_274 ?_
                      refine sy_ti (y := nI (20 * zd)) (pk_mul 20 zd) ?_
                      refine lv_iload hx hb d_Model_correct_275 (lv_at hl 0 rfl) ?_
                      refine lv_iadd hx hb d_Model_correct_277 ?_
                      refine sy_ti (y := nI ((20 * zd) + k)) (nI_add (20 * zd) k) ?_
                      refine lv_iconst (v := 1) hx hb d_Model_correct_278 (by decide) ?_
                      refine sy_zast hx hb hK.1 hP hD hS 13 2 rfl rfl (k := (20 * zd) + k) (b := true) (by omega) (by decide) d_Model_correct_279 (fun H locs hP hD hS => ?_)
                      rw [mw_s12] at hP hD
                      refine lv_iconst (v := 1) hx hb d_Model_correct_280 (by decide) ?_
                      exact W.zret (v := (1 : Int32)) hx hb hr (rfl) (fun t ht hW => ⟨⟨(1 : Int32), (va_up sc 2 ((sc 2) + 1), mI, va_up mL 9 (vp_updL (vp_updL (vp_updL (vp_updL (vp_updL (mL 9) (5 * k) dv.toInt64) ((5 * k) + 1) kd.toInt64) ((5 * k) + 2) se) ((5 * k) + 3) v) ((5 * k) + 4) wh), va_up mZ 12 (va_up (mZ 12) ((20 * zd) + k) true)), rfl, by first | (exfalso; omega; done) | (constructor <;> simp [mo_correct, mo_cok, bI, c_2, hczd, c_4, c_6, c_8, c_10, c_12, c_13, c_13n, c_14, c_15]; done) | (have h1 : ¬ mo_cok sc (nI zd) dv kd se v wh = false := (by simp [mo_cok, c_2, hczd, c_4, c_6, c_8, c_10, c_12, c_13, c_13n, c_14, c_15]); first | (have e : nn_ff (mo_ce2 mL dv kd se v wh) (sc 2) = some k := nn_ff_of (by omega) hI (by simp [mo_ce2, c_13, c_13n, c_14, c_15]; done); constructor <;> (rw [mo_correct, if_neg h1, e, hczd]; rfl)) | (have e : k = sc 2 := (by omega); subst e; constructor <;> (rw [mo_correct, if_neg h1, hI, hczd]; simp [mo_cv, mo_cw, bI, c_13, c_13n, c_14, c_15]; done))), by show va_P _ _ _ t.heap; rw [ht]; exact hP⟩, hS.F ht⟩) hS.2.2 d_Model_correct_281
                  · have c_14 : k = 20 := (nI_eq (a := k) (b := 20) (by omega) (by omega)).mp c_14
                    refine lv_iconst (v := 0) hx hb d_Model_correct_176 (by decide) ?_
                    exact W.zret (v := (0 : Int32)) hx hb hr (rfl) (fun t ht hW => ⟨⟨(0 : Int32), (sc, mI, mL, mZ), rfl, by first | (exfalso; omega; done) | (constructor <;> simp [mo_correct, mo_cok, bI, c_2, hczd, c_4, c_6, c_8, c_10, c_12, c_13, c_13n, c_14]; done) | (have h1 : ¬ mo_cok sc (nI zd) dv kd se v wh = false := (by simp [mo_cok, c_2, hczd, c_4, c_6, c_8, c_10, c_12, c_13, c_13n, c_14]); first | (have e : nn_ff (mo_ce2 mL dv kd se v wh) (sc 2) = some k := nn_ff_of (by omega) hI (by simp [mo_ce2, c_13, c_13n, c_14]; done); constructor <;> (rw [mo_correct, if_neg h1, e, hczd]; rfl)) | (have e : k = sc 2 := (by omega); subst e; constructor <;> (rw [mo_correct, if_neg h1, hI, hczd]; simp [mo_cv, mo_cw, bI, c_13, c_13n, c_14]; done))), by show va_P _ _ _ t.heap; rw [ht]; exact hP⟩, hS.F ht⟩) hS.2.2 d_Model_correct_177
                · have c_13 : ¬ (sc 2) ≤ k := fun h9 => c_13 ((nI_leI (a := sc 2) (b := k) (by omega) (by omega)).mpr h9)
                  have c_13n : k < (sc 2) := by omega
                  refine lv_aload_n hx hb d_Model_correct_80 rfl (lv_at hl 1 rfl) ?_
                  refine va_get (D := G.1) (ci := 7) (v := .ref (ad 9)) (C := R_Model) (T := F_Model) (N := 23) hx hb ht i_Model hown hK.1 hP 0 rfl rfl 12 (by decide) (ht _ m_517) (fun _ h9 => h9) rfl d_Model_correct_81 ?_
                  refine lv_iconst (v := 5) hx hb d_Model_correct_84 (by decide) ?_
                  refine lv_iload hx hb d_Model_correct_85 (lv_at hl 0 rfl) ?_
                  refine lv_imul hx hb d_Model_correct_87 ?_
                  refine sy_ti (y := nI (5 * k)) (pk_mul 5 k) ?_
                  refine sy_lald hx hb hK.1 hP 10 1 rfl rfl (k := 5 * k) (by omega) (by decide) d_Model_correct_88 ?_
                  refine lv_iload_n hx hb d_Model_correct_89 rfl (lv_at hl 3 rfl) ?_
                  refine lv_i2l (v := dv.toInt64) hx hb d_Model_correct_90 rfl ?_
                  refine sy_lc_ne (tgt := 163) hx hb d_Model_correct_91 d_Model_correct_92 (by decide) (fun c_16 => ?_) (fun c_16 => ?_)
                  · refine lv_iinc (v := nI (k + 1)) (lv' := [(10, .int (nI (k + 1))), (0, .ref ob), (1, .int (nI zd)), (2, .int dv), (3, .int kd), (4, .long se), (6, .long v), (8, .long wh)]) hx hb d_Model_correct_163 hl (k := 0) rfl (nI_add k 1) (by decide) rfl (fun ls hl => ?_)
                    refine lv_goto (tgt := 71) hx hb d_Model_correct_166 (by decide) ?_
                    refine ih71 (k + 1) ls (show sc 2 - (k + 1) < sc 2 - k by omega) ?_ (lv_sub hl [0, 1, 2, 3, 4, 5, 6, 7] rfl)
                    exact ⟨by omega, by simp [nn_ff, hI, mo_ce2, c_13, c_13n, c_16]⟩
                  · refine lv_aload_n hx hb d_Model_correct_95 rfl (lv_at hl 1 rfl) ?_
                    refine va_get (D := G.1) (ci := 7) (v := .ref (ad 9)) (C := R_Model) (T := F_Model) (N := 23) hx hb ht i_Model hown hK.1 hP 0 rfl rfl 12 (by decide) (ht _ m_517) (fun _ h9 => h9) rfl d_Model_correct_96 ?_
                    refine lv_iconst (v := 5) hx hb d_Model_correct_99 (by decide) ?_
                    refine lv_iload hx hb d_Model_correct_100 (lv_at hl 0 rfl) ?_
                    refine lv_imul hx hb d_Model_correct_102 ?_
                    refine sy_ti (y := nI (5 * k)) (pk_mul 5 k) ?_
                    refine lv_iconst (v := 1) hx hb d_Model_correct_103 (by decide) ?_
                    refine lv_iadd hx hb d_Model_correct_104 ?_
                    refine sy_ti (y := nI ((5 * k) + 1)) (nI_add (5 * k) 1) ?_
                    refine sy_lald hx hb hK.1 hP 10 1 rfl rfl (k := (5 * k) + 1) (by omega) (by decide) d_Model_correct_105 ?_
                    refine lv_iload_n hx hb d_Model_correct_106 rfl (lv_at hl 4 rfl) ?_
                    refine lv_i2l (v := kd.toInt64) hx hb d_Model_correct_107 rfl ?_
                    refine sy_lc_ne (tgt := 163) hx hb d_Model_correct_108 d_Model_correct_109 (by decide) (fun c_17 => ?_) (fun c_17 => ?_)
                    · refine lv_iinc (v := nI (k + 1)) (lv' := [(10, .int (nI (k + 1))), (0, .ref ob), (1, .int (nI zd)), (2, .int dv), (3, .int kd), (4, .long se), (6, .long v), (8, .long wh)]) hx hb d_Model_correct_163 hl (k := 0) rfl (nI_add k 1) (by decide) rfl (fun ls hl => ?_)
                      refine lv_goto (tgt := 71) hx hb d_Model_correct_166 (by decide) ?_
                      refine ih71 (k + 1) ls (show sc 2 - (k + 1) < sc 2 - k by omega) ?_ (lv_sub hl [0, 1, 2, 3, 4, 5, 6, 7] rfl)
                      exact ⟨by omega, by simp [nn_ff, hI, mo_ce2, c_13, c_13n, c_16, c_17]⟩
                    · refine lv_aload_n hx hb d_Model_correct_112 rfl (lv_at hl 1 rfl) ?_
                      refine va_get (D := G.1) (ci := 7) (v := .ref (ad 9)) (C := R_Model) (T := F_Model) (N := 23) hx hb ht i_Model hown hK.1 hP 0 rfl rfl 12 (by decide) (ht _ m_517) (fun _ h9 => h9) rfl d_Model_correct_113 ?_
                      refine lv_iconst (v := 5) hx hb d_Model_correct_116 (by decide) ?_
                      refine lv_iload hx hb d_Model_correct_117 (lv_at hl 0 rfl) ?_
                      refine lv_imul hx hb d_Model_correct_119 ?_
                      refine sy_ti (y := nI (5 * k)) (pk_mul 5 k) ?_
                      refine lv_iconst (v := 2) hx hb d_Model_correct_120 (by decide) ?_
                      refine lv_iadd hx hb d_Model_correct_121 ?_
                      refine sy_ti (y := nI ((5 * k) + 2)) (nI_add (5 * k) 2) ?_
                      refine sy_lald hx hb hK.1 hP 10 1 rfl rfl (k := (5 * k) + 2) (by omega) (by decide) d_Model_correct_122 ?_
                      refine lv_lload hx hb d_Model_correct_123 (lv_at hl 5 rfl) ?_
                      refine sy_lc_ne (tgt := 163) hx hb d_Model_correct_125 d_Model_correct_126 (by decide) (fun c_18 => ?_) (fun c_18 => ?_)
                      · refine lv_iinc (v := nI (k + 1)) (lv' := [(10, .int (nI (k + 1))), (0, .ref ob), (1, .int (nI zd)), (2, .int dv), (3, .int kd), (4, .long se), (6, .long v), (8, .long wh)]) hx hb d_Model_correct_163 hl (k := 0) rfl (nI_add k 1) (by decide) rfl (fun ls hl => ?_)
                        refine lv_goto (tgt := 71) hx hb d_Model_correct_166 (by decide) ?_
                        refine ih71 (k + 1) ls (show sc 2 - (k + 1) < sc 2 - k by omega) ?_ (lv_sub hl [0, 1, 2, 3, 4, 5, 6, 7] rfl)
                        exact ⟨by omega, by simp [nn_ff, hI, mo_ce2, c_13, c_13n, c_16, c_17, c_18]⟩
                      · refine lv_aload_n hx hb d_Model_correct_129 rfl (lv_at hl 1 rfl) ?_
                        refine va_get (D := G.1) (ci := 7) (v := .ref (ad 9)) (C := R_Model) (T := F_Model) (N := 23) hx hb ht i_Model hown hK.1 hP 0 rfl rfl 12 (by decide) (ht _ m_517) (fun _ h9 => h9) rfl d_Model_correct_130 ?_
                        refine lv_iconst (v := 5) hx hb d_Model_correct_133 (by decide) ?_
                        refine lv_iload hx hb d_Model_correct_134 (lv_at hl 0 rfl) ?_
                        refine lv_imul hx hb d_Model_correct_136 ?_
                        refine sy_ti (y := nI (5 * k)) (pk_mul 5 k) ?_
                        refine lv_iconst (v := 3) hx hb d_Model_correct_137 (by decide) ?_
                        refine lv_iadd hx hb d_Model_correct_138 ?_
                        refine sy_ti (y := nI ((5 * k) + 3)) (nI_add (5 * k) 3) ?_
                        refine sy_lald hx hb hK.1 hP 10 1 rfl rfl (k := (5 * k) + 3) (by omega) (by decide) d_Model_correct_139 ?_
                        refine lv_lload hx hb d_Model_correct_140 (lv_at hl 6 rfl) ?_
                        refine sy_lc_ne (tgt := 163) hx hb d_Model_correct_142 d_Model_correct_143 (by decide) (fun c_19 => ?_) (fun c_19 => ?_)
                        · refine lv_iinc (v := nI (k + 1)) (lv' := [(10, .int (nI (k + 1))), (0, .ref ob), (1, .int (nI zd)), (2, .int dv), (3, .int kd), (4, .long se), (6, .long v), (8, .long wh)]) hx hb d_Model_correct_163 hl (k := 0) rfl (nI_add k 1) (by decide) rfl (fun ls hl => ?_)
                          refine lv_goto (tgt := 71) hx hb d_Model_correct_166 (by decide) ?_
                          refine ih71 (k + 1) ls (show sc 2 - (k + 1) < sc 2 - k by omega) ?_ (lv_sub hl [0, 1, 2, 3, 4, 5, 6, 7] rfl)
                          exact ⟨by omega, by simp [nn_ff, hI, mo_ce2, c_13, c_13n, c_16, c_17, c_18, c_19]⟩
                        · refine lv_aload_n hx hb d_Model_correct_146 rfl (lv_at hl 1 rfl) ?_
                          refine va_get (D := G.1) (ci := 7) (v := .ref (ad 9)) (C := R_Model) (T := F_Model) (N := 23) hx hb ht i_Model hown hK.1 hP 0 rfl rfl 12 (by decide) (ht _ m_517) (fun _ h9 => h9) rfl d_Model_correct_147 ?_
                          refine lv_iconst (v := 5) hx hb d_Model_correct_150 (by decide) ?_
                          refine lv_iload hx hb d_Model_correct_151 (lv_at hl 0 rfl) ?_
                          refine lv_imul hx hb d_Model_correct_153 ?_
                          refine sy_ti (y := nI (5 * k)) (pk_mul 5 k) ?_
                          refine lv_iconst (v := 4) hx hb d_Model_correct_154 (by decide) ?_
                          refine lv_iadd hx hb d_Model_correct_155 ?_
                          refine sy_ti (y := nI ((5 * k) + 4)) (nI_add (5 * k) 4) ?_
                          refine sy_lald hx hb hK.1 hP 10 1 rfl rfl (k := (5 * k) + 4) (by omega) (by decide) d_Model_correct_156 ?_
                          refine lv_lload hx hb d_Model_correct_157 (lv_at hl 7 rfl) ?_
                          refine sy_lc_eq (tgt := 169) hx hb d_Model_correct_159 d_Model_correct_160 (by decide) (fun c_20 => ?_) (fun c_20 => ?_)
                          · refine lv_iload hx hb d_Model_correct_169 (lv_at hl 0 rfl) ?_
                            refine lv_bipush (v := 20) hx hb d_Model_correct_171 (by decide) ?_
                            refine lv_icmp_ne (tgt := 178) hx hb d_Model_correct_173 (by decide) (fun c_21 => ?_) (fun c_21 => ?_)
                            · have c_21 : ¬ k = 20 := fun h9 => c_21 ((nI_eq (a := k) (b := 20) (by omega) (by omega)).mpr h9)
                              refine lv_aload_n hx hb d_Model_correct_178 rfl (lv_at hl 1 rfl) ?_
                              refine va_get (D := G.1) (ci := 7) (v := .ref (ad 9)) (C := R_Model) (T := F_Model) (N := 23) hx hb ht i_Model hown hK.1 hP 0 rfl rfl 12 (by decide) (ht _ m_517) (fun _ h9 => h9) rfl d_Model_correct_179 ?_
                              refine lv_iconst (v := 5) hx hb d_Model_correct_182 (by decide) ?_
                              refine lv_iload hx hb d_Model_correct_183 (lv_at hl 0 rfl) ?_
                              refine lv_imul hx hb d_Model_correct_185 ?_
                              refine sy_ti (y := nI (5 * k)) (pk_mul 5 k) ?_
                              refine lv_iload_n hx hb d_Model_correct_186 rfl (lv_at hl 3 rfl) ?_
                              refine lv_i2l (v := dv.toInt64) hx hb d_Model_correct_187 rfl ?_
                              refine sy_last hx hb hK.1 hP hD hS 10 1 rfl rfl (k := 5 * k) (by omega) (by decide) d_Model_correct_188 (fun H locs hP hD hS => ?_)
                              rw [mw_s9] at hP hD
                              refine lv_aload_n hx hb d_Model_correct_189 rfl (lv_at hl 1 rfl) ?_
                              refine va_get (D := G.1) (ci := 7) (v := .ref (ad 9)) (C := R_Model) (T := F_Model) (N := 23) hx hb ht i_Model hown hK.1 hP 0 rfl rfl 12 (by decide) (ht _ m_517) (fun _ h9 => h9) rfl d_Model_correct_190 ?_
                              refine lv_iconst (v := 5) hx hb d_Model_correct_193 (by decide) ?_
                              refine lv_iload hx hb d_Model_correct_194 (lv_at hl 0 rfl) ?_
                              refine lv_imul hx hb d_Model_correct_196 ?_
                              refine sy_ti (y := nI (5 * k)) (pk_mul 5 k) ?_
                              refine lv_iconst (v := 1) hx hb d_Model_correct_197 (by decide) ?_
                              refine lv_iadd hx hb d_Model_correct_198 ?_
                              refine sy_ti (y := nI ((5 * k) + 1)) (nI_add (5 * k) 1) ?_
                              refine lv_iload_n hx hb d_Model_correct_199 rfl (lv_at hl 4 rfl) ?_
                              refine lv_i2l (v := kd.toInt64) hx hb d_Model_correct_200 rfl ?_
                              refine sy_last hx hb hK.1 hP hD hS 10 1 rfl rfl (k := (5 * k) + 1) (by omega) (by decide) d_Model_correct_201 (fun H locs hP hD hS => ?_)
                              rw [show (va_up mL 9 (vp_updL (mL 9) (5 * k) dv.toInt64)) 9 = vp_updL (mL 9) (5 * k) dv.toInt64 from rfl, mw_s9, bx_uu] at hP hD
                              refine lv_aload_n hx hb d_Model_correct_202 rfl (lv_at hl 1 rfl) ?_
                              refine va_get (D := G.1) (ci := 7) (v := .ref (ad 9)) (C := R_Model) (T := F_Model) (N := 23) hx hb ht i_Model hown hK.1 hP 0 rfl rfl 12 (by decide) (ht _ m_517) (fun _ h9 => h9) rfl d_Model_correct_203 ?_
                              refine lv_iconst (v := 5) hx hb d_Model_correct_206 (by decide) ?_
                              refine lv_iload hx hb d_Model_correct_207 (lv_at hl 0 rfl) ?_
                              refine lv_imul hx hb d_Model_correct_209 ?_
                              refine sy_ti (y := nI (5 * k)) (pk_mul 5 k) ?_
                              refine lv_iconst (v := 2) hx hb d_Model_correct_210 (by decide) ?_
                              refine lv_iadd hx hb d_Model_correct_211 ?_
                              refine sy_ti (y := nI ((5 * k) + 2)) (nI_add (5 * k) 2) ?_
                              refine lv_lload hx hb d_Model_correct_212 (lv_at hl 5 rfl) ?_
                              refine sy_last hx hb hK.1 hP hD hS 10 1 rfl rfl (k := (5 * k) + 2) (by omega) (by decide) d_Model_correct_214 (fun H locs hP hD hS => ?_)
                              rw [show (va_up mL 9 (vp_updL (vp_updL (mL 9) (5 * k) dv.toInt64) ((5 * k) + 1) kd.toInt64)) 9 = vp_updL (vp_updL (mL 9) (5 * k) dv.toInt64) ((5 * k) + 1) kd.toInt64 from rfl, mw_s9, bx_uu] at hP hD
                              refine lv_aload_n hx hb d_Model_correct_215 rfl (lv_at hl 1 rfl) ?_
                              refine va_get (D := G.1) (ci := 7) (v := .ref (ad 9)) (C := R_Model) (T := F_Model) (N := 23) hx hb ht i_Model hown hK.1 hP 0 rfl rfl 12 (by decide) (ht _ m_517) (fun _ h9 => h9) rfl d_Model_correct_216 ?_
                              refine lv_iconst (v := 5) hx hb d_Model_correct_219 (by decide) ?_
                              refine lv_iload hx hb d_Model_correct_220 (lv_at hl 0 rfl) ?_
                              refine lv_imul hx hb d_Model_correct_222 ?_
                              refine sy_ti (y := nI (5 * k)) (pk_mul 5 k) ?_
                              refine lv_iconst (v := 3) hx hb d_Model_correct_223 (by decide) ?_
                              refine lv_iadd hx hb d_Model_correct_224 ?_
                              refine sy_ti (y := nI ((5 * k) + 3)) (nI_add (5 * k) 3) ?_
                              refine lv_lload hx hb d_Model_correct_225 (lv_at hl 6 rfl) ?_
                              refine sy_last hx hb hK.1 hP hD hS 10 1 rfl rfl (k := (5 * k) + 3) (by omega) (by decide) d_Model_correct_227 (fun H locs hP hD hS => ?_)
                              rw [show (va_up mL 9 (vp_updL (vp_updL (vp_updL (mL 9) (5 * k) dv.toInt64) ((5 * k) + 1) kd.toInt64) ((5 * k) + 2) se)) 9 = vp_updL (vp_updL (vp_updL (mL 9) (5 * k) dv.toInt64) ((5 * k) + 1) kd.toInt64) ((5 * k) + 2) se from rfl, mw_s9, bx_uu] at hP hD
                              refine lv_aload_n hx hb d_Model_correct_228 rfl (lv_at hl 1 rfl) ?_
                              refine va_get (D := G.1) (ci := 7) (v := .ref (ad 9)) (C := R_Model) (T := F_Model) (N := 23) hx hb ht i_Model hown hK.1 hP 0 rfl rfl 12 (by decide) (ht _ m_517) (fun _ h9 => h9) rfl d_Model_correct_229 ?_
                              refine lv_iconst (v := 5) hx hb d_Model_correct_232 (by decide) ?_
                              refine lv_iload hx hb d_Model_correct_233 (lv_at hl 0 rfl) ?_
                              refine lv_imul hx hb d_Model_correct_235 ?_
                              refine sy_ti (y := nI (5 * k)) (pk_mul 5 k) ?_
                              refine lv_iconst (v := 4) hx hb d_Model_correct_236 (by decide) ?_
                              refine lv_iadd hx hb d_Model_correct_237 ?_
                              refine sy_ti (y := nI ((5 * k) + 4)) (nI_add (5 * k) 4) ?_
                              refine lv_lload hx hb d_Model_correct_238 (lv_at hl 7 rfl) ?_
                              refine sy_last hx hb hK.1 hP hD hS 10 1 rfl rfl (k := (5 * k) + 4) (by omega) (by decide) d_Model_correct_240 (fun H locs hP hD hS => ?_)
                              rw [show (va_up mL 9 (vp_updL (vp_updL (vp_updL (vp_updL (mL 9) (5 * k) dv.toInt64) ((5 * k) + 1) kd.toInt64) ((5 * k) + 2) se) ((5 * k) + 3) v)) 9 = vp_updL (vp_updL (vp_updL (vp_updL (mL 9) (5 * k) dv.toInt64) ((5 * k) + 1) kd.toInt64) ((5 * k) + 2) se) ((5 * k) + 3) v from rfl, mw_s9, bx_uu] at hP hD
                              refine lv_aload_n hx hb d_Model_correct_241 rfl (lv_at hl 1 rfl) ?_
                              refine lv_iload hx hb d_Model_correct_242 (lv_at hl 0 rfl) ?_
                              refine lv_aload_n hx hb d_Model_correct_244 rfl (lv_at hl 1 rfl) ?_
                              refine va_get (D := G.1) (ci := 7) (v := .int (nI (sc 2))) (C := R_Model) (T := F_Model) (N := 23) hx hb ht i_Model hown hK.1 hP 0 rfl rfl 11 (by decide) (ht _ m_516) (fun _ h9 => h9) rfl d_Model_correct_245 ?_
                              refine lv_icmp_ne (tgt := 260) hx hb d_Model_correct_248 (by decide) (fun c_22 => ?_) (fun c_22 => ?_)
                              · have c_22 : ¬ k = (sc 2) := fun h9 => c_22 ((nI_eq (a := k) (b := sc 2) (by omega) (by omega)).mpr h9)
                                refine lv_aload_n hx hb d_Model_correct_260 rfl (lv_at hl 1 rfl) ?_
                                refine va_get (D := G.1) (ci := 7) (v := .int (nI (sc 2))) (C := R_Model) (T := F_Model) (N := 23) hx hb ht i_Model hown hK.1 hP 0 rfl rfl 11 (by decide) (ht _ m_516) (fun _ h9 => h9) rfl d_Model_correct_261 ?_
                                refine va_put (D := G.1) (ci := 7) (v := .int (nI (sc 2))) (ty := .int) (C := R_Model) (T := F_Model) (N := 23) hx hb ht i_Model t_Model t_Model_ok n_Model hown hK.1 hP hD hS 0 rfl rfl 11 (by decide) (ht _ m_516) (fun _ h9 => h9) rfl (by decide +kernel) rfl rfl (Nat.le_of_ble_eq_true rfl) d_Model_correct_264 (fun H locs hP hD hS => ?_)
                                have hP : va_P G.1 classes (mw G.2 ob ad sc mI (va_up mL 9 (vp_updL (vp_updL (vp_updL (vp_updL (vp_updL (mL 9) (5 * k) dv.toInt64) ((5 * k) + 1) kd.toInt64) ((5 * k) + 2) se) ((5 * k) + 3) v) ((5 * k) + 4) wh)) mZ) H := hP
                                have hD : va_D A (mw G.2 ob ad sc mI (va_up mL 9 (vp_updL (vp_updL (vp_updL (vp_updL (vp_updL (mL 9) (5 * k) dv.toInt64) ((5 * k) + 1) kd.toInt64) ((5 * k) + 2) se) ((5 * k) + 3) v) ((5 * k) + 4) wh)) mZ) := hD
                                refine lv_aload_n hx hb d_Model_correct_267 rfl (lv_at hl 1 rfl) ?_
                                refine va_get (D := G.1) (ci := 7) (v := .ref (ad 12)) (C := R_Model) (T := F_Model) (N := 23) hx hb ht i_Model hown hK.1 hP 0 rfl rfl 17 (by decide) (ht _ m_522) (fun _ h9 => h9) rfl d_Model_correct_268 ?_
                                refine lv_bipush (v := 20) hx hb d_Model_correct_271 (by decide) ?_
                                refine lv_iload_n hx hb d_Model_correct_273 rfl (lv_at hl 2 rfl) ?_
                                refine lv_imul hx hb d_Model_correct_274 ?_
                                refine sy_ti (y := nI (20 * zd)) (pk_mul 20 zd) ?_
                                refine lv_iload hx hb d_Model_correct_275 (lv_at hl 0 rfl) ?_
                                refine lv_iadd hx hb d_Model_correct_277 ?_
                                refine sy_ti (y := nI ((20 * zd) + k)) (nI_add (20 * zd) k) ?_
                                refine lv_iconst (v := 1) hx hb d_Model_correct_278 (by decide) ?_
                                refine sy_zast hx hb hK.1 hP hD hS 13 2 rfl rfl (k := (20 * zd) + k) (b := true) (by omega) (by decide) d_Model_correct_279 (fun H locs hP hD hS => ?_)
                                rw [mw_s12] at hP hD
                                refine lv_iconst (v := 1) hx hb d_Model_correct_280 (by decide) ?_
                                exact W.zret (v := (1 : Int32)) hx hb hr (rfl) (fun t ht hW => ⟨⟨(1 : Int32), (sc, mI, va_up mL 9 (vp_updL (vp_updL (vp_updL (vp_updL (vp_updL (mL 9) (5 * k) dv.toInt64) ((5 * k) + 1) kd.toInt64) ((5 * k) + 2) se) ((5 * k) + 3) v) ((5 * k) + 4) wh), va_up mZ 12 (va_up (mZ 12) ((20 * zd) + k) true)), rfl, by first | (exfalso; omega; done) | (constructor <;> simp [mo_correct, mo_cok, bI, c_2, hczd, c_4, c_6, c_8, c_10, c_12, c_13, c_13n, c_16, c_17, c_18, c_19, c_20, c_21, c_22]; done) | (have h1 : ¬ mo_cok sc (nI zd) dv kd se v wh = false := (by simp [mo_cok, c_2, hczd, c_4, c_6, c_8, c_10, c_12, c_13, c_13n, c_16, c_17, c_18, c_19, c_20, c_21, c_22]); first | (have e : nn_ff (mo_ce2 mL dv kd se v wh) (sc 2) = some k := nn_ff_of (by omega) hI (by simp [mo_ce2, c_13, c_13n, c_16, c_17, c_18, c_19, c_20, c_21, c_22]; done); constructor <;> (rw [mo_correct, if_neg h1, e, hczd]; rfl)) | (have e : k = sc 2 := (by omega); subst e; constructor <;> (rw [mo_correct, if_neg h1, hI, hczd]; simp [mo_cv, mo_cw, bI, c_13, c_13n, c_16, c_17, c_18, c_19, c_20, c_21, c_22]; done))), by show va_P _ _ _ t.heap; rw [ht]; exact hP⟩, hS.F ht⟩) hS.2.2 d_Model_correct_281
                              · have c_22 : k = (sc 2) := (nI_eq (a := k) (b := sc 2) (by omega) (by omega)).mp c_22
                                refine lv_aload_n hx hb d_Model_correct_251 rfl (lv_at hl 1 rfl) ?_
                                refine va_get (D := G.1) (ci := 7) (v := .int (nI (sc 2))) (C := R_Model) (T := F_Model) (N := 23) hx hb ht i_Model hown hK.1 hP 0 rfl rfl 11 (by decide) (ht _ m_516) (fun _ h9 => h9) rfl d_Model_correct_252 ?_
                                refine lv_iconst (v := 1) hx hb d_Model_correct_255 (by decide) ?_
                                refine lv_iadd hx hb d_Model_correct_256 ?_
                                refine sy_ti (y := nI ((sc 2) + 1)) (nI_add (sc 2) 1) ?_
                                refine lv_goto (tgt := 264) hx hb d_Model_correct_257 (by decide) ?_
                                refine va_put (D := G.1) (ci := 7) (v := .int (nI ((sc 2) + 1))) (ty := .int) (C := R_Model) (T := F_Model) (N := 23) hx hb ht i_Model t_Model t_Model_ok n_Model hown hK.1 hP hD hS 0 rfl rfl 11 (by decide) (ht _ m_516) (fun _ h9 => h9) rfl (by decide +kernel) rfl rfl (Nat.le_of_ble_eq_true rfl) d_Model_correct_264 (fun H locs hP hD hS => ?_)
                                have hP : va_P G.1 classes (mw G.2 ob ad (va_up sc 2 ((sc 2) + 1)) mI (va_up mL 9 (vp_updL (vp_updL (vp_updL (vp_updL (vp_updL (mL 9) (5 * k) dv.toInt64) ((5 * k) + 1) kd.toInt64) ((5 * k) + 2) se) ((5 * k) + 3) v) ((5 * k) + 4) wh)) mZ) H := hP
                                have hD : va_D A (mw G.2 ob ad (va_up sc 2 ((sc 2) + 1)) mI (va_up mL 9 (vp_updL (vp_updL (vp_updL (vp_updL (vp_updL (mL 9) (5 * k) dv.toInt64) ((5 * k) + 1) kd.toInt64) ((5 * k) + 2) se) ((5 * k) + 3) v) ((5 * k) + 4) wh)) mZ) := hD
                                refine lv_aload_n hx hb d_Model_correct_267 rfl (lv_at hl 1 rfl) ?_
                                refine va_get (D := G.1) (ci := 7) (v := .ref (ad 12)) (C := R_Model) (T := F_Model) (N := 23) hx hb ht i_Model hown hK.1 hP 0 rfl rfl 17 (by decide) (ht _ m_522) (fun _ h9 => h9) rfl d_Model_correct_268 ?_
                                refine lv_bipush (v := 20) hx hb d_Model_correct_271 (by decide) ?_
                                refine lv_iload_n hx hb d_Model_correct_273 rfl (lv_at hl 2 rfl) ?_
                                refine lv_imul hx hb d_Model_correct_274 ?_
                                refine sy_ti (y := nI (20 * zd)) (pk_mul 20 zd) ?_
                                refine lv_iload hx hb d_Model_correct_275 (lv_at hl 0 rfl) ?_
                                refine lv_iadd hx hb d_Model_correct_277 ?_
                                refine sy_ti (y := nI ((20 * zd) + k)) (nI_add (20 * zd) k) ?_
                                refine lv_iconst (v := 1) hx hb d_Model_correct_278 (by decide) ?_
                                refine sy_zast hx hb hK.1 hP hD hS 13 2 rfl rfl (k := (20 * zd) + k) (b := true) (by omega) (by decide) d_Model_correct_279 (fun H locs hP hD hS => ?_)
                                rw [mw_s12] at hP hD
                                refine lv_iconst (v := 1) hx hb d_Model_correct_280 (by decide) ?_
                                exact W.zret (v := (1 : Int32)) hx hb hr (rfl) (fun t ht hW => ⟨⟨(1 : Int32), (va_up sc 2 ((sc 2) + 1), mI, va_up mL 9 (vp_updL (vp_updL (vp_updL (vp_updL (vp_updL (mL 9) (5 * k) dv.toInt64) ((5 * k) + 1) kd.toInt64) ((5 * k) + 2) se) ((5 * k) + 3) v) ((5 * k) + 4) wh), va_up mZ 12 (va_up (mZ 12) ((20 * zd) + k) true)), rfl, by first | (exfalso; omega; done) | (constructor <;> simp [mo_correct, mo_cok, bI, c_2, hczd, c_4, c_6, c_8, c_10, c_12, c_13, c_13n, c_16, c_17, c_18, c_19, c_20, c_21, c_22]; done) | (have h1 : ¬ mo_cok sc (nI zd) dv kd se v wh = false := (by simp [mo_cok, c_2, hczd, c_4, c_6, c_8, c_10, c_12, c_13, c_13n, c_16, c_17, c_18, c_19, c_20, c_21, c_22]); first | (have e : nn_ff (mo_ce2 mL dv kd se v wh) (sc 2) = some k := nn_ff_of (by omega) hI (by simp [mo_ce2, c_13, c_13n, c_16, c_17, c_18, c_19, c_20, c_21, c_22]; done); constructor <;> (rw [mo_correct, if_neg h1, e, hczd]; rfl)) | (have e : k = sc 2 := (by omega); subst e; constructor <;> (rw [mo_correct, if_neg h1, hI, hczd]; simp [mo_cv, mo_cw, bI, c_13, c_13n, c_16, c_17, c_18, c_19, c_20, c_21, c_22]; done))), by show va_P _ _ _ t.heap; rw [ht]; exact hP⟩, hS.F ht⟩) hS.2.2 d_Model_correct_281
                            · have c_21 : k = 20 := (nI_eq (a := k) (b := 20) (by omega) (by omega)).mp c_21
                              refine lv_iconst (v := 0) hx hb d_Model_correct_176 (by decide) ?_
                              exact W.zret (v := (0 : Int32)) hx hb hr (rfl) (fun t ht hW => ⟨⟨(0 : Int32), (sc, mI, mL, mZ), rfl, by first | (exfalso; omega; done) | (constructor <;> simp [mo_correct, mo_cok, bI, c_2, hczd, c_4, c_6, c_8, c_10, c_12, c_13, c_13n, c_16, c_17, c_18, c_19, c_20, c_21]; done) | (have h1 : ¬ mo_cok sc (nI zd) dv kd se v wh = false := (by simp [mo_cok, c_2, hczd, c_4, c_6, c_8, c_10, c_12, c_13, c_13n, c_16, c_17, c_18, c_19, c_20, c_21]); first | (have e : nn_ff (mo_ce2 mL dv kd se v wh) (sc 2) = some k := nn_ff_of (by omega) hI (by simp [mo_ce2, c_13, c_13n, c_16, c_17, c_18, c_19, c_20, c_21]; done); constructor <;> (rw [mo_correct, if_neg h1, e, hczd]; rfl)) | (have e : k = sc 2 := (by omega); subst e; constructor <;> (rw [mo_correct, if_neg h1, hI, hczd]; simp [mo_cv, mo_cw, bI, c_13, c_13n, c_16, c_17, c_18, c_19, c_20, c_21]; done))), by show va_P _ _ _ t.heap; rw [ht]; exact hP⟩, hS.F ht⟩) hS.2.2 d_Model_correct_177
                          · refine lv_iinc (v := nI (k + 1)) (lv' := [(10, .int (nI (k + 1))), (0, .ref ob), (1, .int (nI zd)), (2, .int dv), (3, .int kd), (4, .long se), (6, .long v), (8, .long wh)]) hx hb d_Model_correct_163 hl (k := 0) rfl (nI_add k 1) (by decide) rfl (fun ls hl => ?_)
                            refine lv_goto (tgt := 71) hx hb d_Model_correct_166 (by decide) ?_
                            refine ih71 (k + 1) ls (show sc 2 - (k + 1) < sc 2 - k by omega) ?_ (lv_sub hl [0, 1, 2, 3, 4, 5, 6, 7] rfl)
                            exact ⟨by omega, by simp [nn_ff, hI, mo_ce2, c_13, c_13n, c_16, c_17, c_18, c_19, c_20]⟩
              · exact ⟨Nat.zero_le _, rfl⟩
            · have c_12 : (mo_in wh (0 : Int64) (1000000 : Int64)) = false := bI_f c_12
              refine lv_iconst (v := 0) hx hb d_Model_correct_66 (by decide) ?_
              exact W.zret (v := (0 : Int32)) hx hb hr (rfl) (fun t ht hW => ⟨⟨(0 : Int32), (sc, mI, mL, mZ), rfl, by first | (exfalso; omega; done) | (constructor <;> simp [mo_correct, mo_cok, bI, c_2, hczd, c_4, c_6, c_8, c_10, c_12]; done) | (have h1 : ¬ mo_cok sc (nI zd) dv kd se v wh = false := (by simp [mo_cok, c_2, hczd, c_4, c_6, c_8, c_10, c_12]); first | (have e : nn_ff (mo_ce2 mL dv kd se v wh) (sc 2) = some k := nn_ff_of (by omega) hI (by simp [mo_ce2, c_2, hczd, c_4, c_6, c_8, c_10, c_12]; done); constructor <;> (rw [mo_correct, if_neg h1, e, hczd]; rfl)) | (have e : k = sc 2 := (by omega); subst e; constructor <;> (rw [mo_correct, if_neg h1, hI, hczd]; simp [mo_cv, mo_cw, bI, c_2, hczd, c_4, c_6, c_8, c_10, c_12]; done))), by show va_P _ _ _ t.heap; rw [ht]; exact hP⟩, hS.F ht⟩) hS.2.2 d_Model_correct_67
