set_option maxHeartbeats 4000000 in
set_option maxRecDepth 100000 in
theorem c_Model_retain (l : Launch) (G : sy_G) (ob : Nat) (ad : Nat → Nat) (sc : Nat → Nat) (mI : Nat → Nat → Int32) (mL : Nat → Nat → Int64) (mZ : Nat → Nat → Bool) (d : Int32) (x : Int64) (hn : sc 1 ≤ 60) (hs : sc 3 ≤ 6) : Met l y_Model_retain (sy_w y_Model_retain b_Model_retain 6 (some .int)) { frames := 1, cells := 0, slots := 0, locals := 25 } (va_Pc [.ref ob, .int d, .long x] (sy_KP G (fun H => va_P G.1 classes (mw G.2 ob ad sc mI mL mZ) H ∧ va_D (fun _ => True) (mw G.2 ob ad sc mI mL mZ)))) (va_Qi (S := ms_S) (fun r u => r = (mo_retain sc mI mL mZ d x).1 ∧ u = (mo_retain sc mI mL mZ d x).2) (fun u t => va_P G.1 classes (mw G.2 ob ad u.1 u.2.1 u.2.2.1 u.2.2.2) t.heap) (sy_A (mw G.2 ob ad sc mI mL mZ))) 0 0 (sy_A (mw G.2 ob ad sc mI mL mZ)) := by
  refine Met.ofW (cc := b_Model_retain) (maxL := 6) (ret := (some .int)) (by decide) rfl ?_
  intro p e s m args below meth c s₁ B hml hv
  obtain ⟨rfl, ⟨hP, hD0⟩, hK⟩ := hv
  have hx := B.exec
  have hb := B.bytes
  have hr := B.returns
  have hts := atoms_spec (ws := sy_w y_Model_retain b_Model_retain 6 (some .int)) B.pre
  have ht : ∀ wd ∈ sy_T, wd.before ([.ref ob, .int d, .long x] : List Value).toArray s = true := fun wd h => hts wd (List.mem_cons_of_mem _ h)
  have hown : s.vm.findClass R_Model = some m.cls := findClass_of_methodNamed B.named
  have hlocks := B.notSynchronized
  have hD := sy_self hD0
  generalize hAe : sy_A (mw G.2 ob ad sc mI mL mZ) = A at hD ⊢
  have hS : va_S A s.heap s.heap [] := va_S.rf
  have hl := lv_entry ([.ref ob, .int d, .long x]) (n := 6) (Nat.le_of_ble_eq_true rfl)
  rw [lg_entry_eq]
  generalize (lg_sl ([.ref ob, .int d, .long x]) ++ List.replicate (6 - (lg_sl ([.ref ob, .int d, .long x])).length) Slot.unset).toArray = ls at hl ⊢
  have hl : lv_has ls 6 [(0, .ref ob), (1, .int d), (2, .long x)] := hl
  refine lv_aload_n hx hb d_Model_retain_0 rfl (lv_at hl 0 rfl) ?_
  refine lv_iload_n hx hb d_Model_retain_1 rfl (lv_at hl 1 rfl) ?_
  refine vp_callSi (va_Run.run (sy_runV (As := [.int d]) (rest := []) (b := ob) ⟨hx, hb, hml, hown, ht⟩ cl_Model_96 (c_Model_isSet l G ob ad sc mI mL mZ d (by omega)) hK hP (va_recv hK.1 hP (ci := 7) (q0 := 0) rfl rfl) rfl nm_Model_isSet rfl rfl ⟨Nat.le_of_ble_eq_true rfl, Nat.le_of_ble_eq_true rfl⟩ hl.1 (Nat.le_of_ble_eq_true rfl) d_Model_retain_2 ⟨Nat.zero_le _, Nat.zero_le _⟩)) (fun r_1 hr_1 => ?_)
  subst hr_1
  refine lv_if_eq (tgt := 19) hx hb d_Model_retain_5 (by decide) (fun c_2 => ?_) (fun c_2 => ?_)
  · have c_2 : (mo_ok (sc 3) d) = false := bI_f c_2
    refine lv_iconst (v := (-1)) hx hb d_Model_retain_19 (by decide) ?_
    exact W.iret (v := (-1 : Int32)) hx hb hr (fun t ht hW => ⟨⟨(-1 : Int32), (sc, mI, mL, mZ), rfl, by first | (constructor <;> simp [mo_retain, c_2]; done) | (have e : sc 1 = k := (by omega); constructor <;> simp [mo_retain, e, ← hI, e101, c_2]; done), by show va_P _ _ _ t.heap; rw [ht]; exact hP⟩, hS.F ht⟩) hS.2.2 d_Model_retain_20
  · have c_2 : (mo_ok (sc 3) d) = true := bI_t c_2
    obtain ⟨zd, hzd, ezd⟩ := mo_ix (by omega) c_2
    subst ezd
    have hczd : (nI zd).toNatClampNeg = zd := nI_clamp (by omega)
    refine lv_lload_n hx hb d_Model_retain_8 rfl (lv_at hl 2 rfl) ?_
    refine lv_lconst (v := 0) hx hb d_Model_retain_9 (by decide) ?_
    refine lv_ldc2 (v := 2000000) hx hb hown (ht _ m_704) d_Model_retain_10 ?_
    refine vp_callSi (va_Run.run (sy_runS (As := [.long x, .long 0, .long 2000000]) (rest := []) ⟨hx, hb, hml, hown, ht⟩ cl_Model_79 (c_Model_isIn l G x (0 : Int64) (2000000 : Int64)) hK trivial rfl nm_Model_isIn rfl rfl ⟨Nat.le_of_ble_eq_true rfl, Nat.le_of_ble_eq_true rfl⟩ hl.1 (Nat.le_of_ble_eq_true rfl) d_Model_retain_13 ⟨Nat.zero_le _, Nat.zero_le _⟩)) (fun r_3 hr_3 => ?_)
    subst hr_3
    refine lv_if_ne (tgt := 21) hx hb d_Model_retain_16 (by decide) (fun c_4 => ?_) (fun c_4 => ?_)
    · have c_4 : (mo_in x (0 : Int64) (2000000 : Int64)) = true := bI_t c_4
      refine lv_iconst (v := 0) hx hb d_Model_retain_21 (by decide) ?_
      refine lv_istore (lv' := [(4, .int 0), (0, .ref ob), (1, .int (nI zd)), (2, .long x)]) hx hb d_Model_retain_22 hl (by decide) rfl (fun ls hl => ?_)
      refine lv_iconst (v := 0) hx hb d_Model_retain_24 (by decide) ?_
      refine lv_istore (lv' := [(5, .int 0), (4, .int 0), (0, .ref ob), (1, .int (nI zd)), (2, .long x)]) hx hb d_Model_retain_25 hl (by decide) rfl (fun ls hl => ?_)
      refine sy_loop (σ := Nat × Nat) (nL := 6) (fun x27 => match x27 with | (k, f) => sc 1 - k) (fun x27 => match x27 with | (k, f) => [(5, .int (nI k)), (4, .int (nI f)), (0, .ref ob), (1, .int (nI zd)), (2, .long x)]) (fun x27 => match x27 with | (k, f) => k ≤ sc 1 ∧ f = nn_ct (mo_rp mI mL mZ zd x) k) ?_ (0, 0) ?_ (lv_sub hl [0, 1, 2, 3, 4] rfl)
      · intro x27 ls hI hl ih27
        obtain ⟨k, f⟩ := x27
        have hl : lv_has ls 6 [(5, .int (nI k)), (4, .int (nI f)), (0, .ref ob), (1, .int (nI zd)), (2, .long x)] := hl
        obtain ⟨hk, hI⟩ := hI
        refine lv_iload hx hb d_Model_retain_27 (lv_at hl 0 rfl) ?_
        refine lv_aload_n hx hb d_Model_retain_29 rfl (lv_at hl 2 rfl) ?_
        refine va_get (D := G.1) (ci := 7) (v := .int (nI (sc 1))) (C := R_Model) (T := F_Model) (N := 23) hx hb ht i_Model hown hK.1 hP 0 rfl rfl 3 (by decide) (ht _ m_508) (fun _ h9 => h9) rfl d_Model_retain_30 ?_
        refine lv_icmp_ge (tgt := 75) hx hb d_Model_retain_33 (by decide) (fun c_5 => ?_) (fun c_5 => ?_)
        · have c_5 : (sc 1) ≤ k := (nI_leI (a := sc 1) (b := k) (by omega) (by omega)).mp c_5
          have c_5n : ¬ k < (sc 1) := by omega
          refine lv_aload_n hx hb d_Model_retain_75 rfl (lv_at hl 2 rfl) ?_
          refine va_get (D := G.1) (ci := 7) (v := .ref (ad 13)) (C := R_Model) (T := F_Model) (N := 23) hx hb ht i_Model hown hK.1 hP 0 rfl rfl 18 (by decide) (ht _ m_523) (fun _ h9 => h9) rfl d_Model_retain_76 ?_
          refine lv_iload_n hx hb d_Model_retain_79 rfl (lv_at hl 3 rfl) ?_
          refine sy_cut (σ := Int64) (nL := 6) (pc2 := 101) (fun b101 => [(4, .int (nI f)), (0, .ref ob), (1, .int (nI zd)), (2, .long x)]) (fun b101 => [.long b101, .int (nI zd), .ref (ad 13)]) (fun b101 => b101 = if mL 13 zd < x then x else mL 13 zd) ?_ ?_
          · intro b101 ls hI101 hl
            have hl : lv_has ls 6 [(4, .int (nI f)), (0, .ref ob), (1, .int (nI zd)), (2, .long x)] := hl
            have e101 := hI101
            refine sy_last hx hb hK.1 hP hD hS 14 1 rfl rfl (k := zd) (by omega) (by decide) d_Model_retain_101 (fun H locs hP hD hS => ?_)
            rw [mw_s13] at hP hD
            refine lv_iload hx hb d_Model_retain_102 (lv_at hl 0 rfl) ?_
            exact W.iret (v := nI f) hx hb hr (fun t ht hW => ⟨⟨nI f, (sc, mI, va_up mL 13 (vp_updL (mL 13) zd b101), mZ), rfl, by first | (constructor <;> simp [mo_retain, c_2, hczd, c_4, c_5, c_5n]; done) | (have e : sc 1 = k := (by omega); constructor <;> simp [mo_retain, e, ← hI, e101, c_2, hczd, c_4, c_5, c_5n]; done), by show va_P _ _ _ t.heap; rw [ht]; exact hP⟩, hS.F ht⟩) hS.2.2 d_Model_retain_104
          · intro cut101
            refine lv_lload_n hx hb d_Model_retain_80 rfl (lv_at hl 4 rfl) ?_
            refine lv_aload_n hx hb d_Model_retain_81 rfl (lv_at hl 2 rfl) ?_
            refine va_get (D := G.1) (ci := 7) (v := .ref (ad 13)) (C := R_Model) (T := F_Model) (N := 23) hx hb ht i_Model hown hK.1 hP 0 rfl rfl 18 (by decide) (ht _ m_523) (fun _ h9 => h9) rfl d_Model_retain_82 ?_
            refine lv_iload_n hx hb d_Model_retain_85 rfl (lv_at hl 3 rfl) ?_
            refine sy_lald hx hb hK.1 hP 14 1 rfl rfl (k := zd) (by omega) (by decide) d_Model_retain_86 ?_
            refine sy_lc_le (tgt := 95) hx hb d_Model_retain_87 d_Model_retain_88 (by decide) (fun c_6 => ?_) (fun c_6 => ?_)
            · have c_6n := sy_c64 c_6
              refine lv_aload_n hx hb d_Model_retain_95 rfl (lv_at hl 2 rfl) ?_
              refine va_get (D := G.1) (ci := 7) (v := .ref (ad 13)) (C := R_Model) (T := F_Model) (N := 23) hx hb ht i_Model hown hK.1 hP 0 rfl rfl 18 (by decide) (ht _ m_523) (fun _ h9 => h9) rfl d_Model_retain_96 ?_
              refine lv_iload_n hx hb d_Model_retain_99 rfl (lv_at hl 3 rfl) ?_
              refine sy_lald hx hb hK.1 hP 14 1 rfl rfl (k := zd) (by omega) (by decide) d_Model_retain_100 ?_
              refine cut101 (mL 13 zd) ls ?_ (lv_sub hl [1, 2, 3, 4] rfl)
              simp [c_5, c_5n, c_6, c_6n]
            · have c_6n := sy_d64 c_6
              refine lv_lload_n hx hb d_Model_retain_91 rfl (lv_at hl 4 rfl) ?_
              refine lv_goto (tgt := 101) hx hb d_Model_retain_92 (by decide) ?_
              refine cut101 x ls ?_ (lv_sub hl [1, 2, 3, 4] rfl)
              simp [c_5, c_5n, c_6, c_6n]
        · have c_5 : ¬ (sc 1) ≤ k := fun h9 => c_5 ((nI_leI (a := sc 1) (b := k) (by omega) (by omega)).mpr h9)
          have c_5n : k < (sc 1) := by omega
          refine lv_iload hx hb d_Model_retain_36 (lv_at hl 1 rfl) ?_
          refine lv_aload_n hx hb d_Model_retain_38 rfl (lv_at hl 2 rfl) ?_
          refine lv_iload_n hx hb d_Model_retain_39 rfl (lv_at hl 3 rfl) ?_
          refine lv_iload hx hb d_Model_retain_40 (lv_at hl 0 rfl) ?_
          refine vp_callSi (va_Run.run (sy_runV (As := [.int (nI zd), .int (nI k)]) (rest := [.int (nI f)]) (b := ob) ⟨hx, hb, hml, hown, ht⟩ cl_Model_109 (c_Model_isHere l G ob ad sc mI mL mZ zd k (by omega) (by omega)) hK hP (va_recv hK.1 hP (ci := 7) (q0 := 0) rfl rfl) rfl nm_Model_isHere rfl rfl ⟨Nat.le_of_ble_eq_true rfl, Nat.le_of_ble_eq_true rfl⟩ hl.1 (Nat.le_of_ble_eq_true rfl) d_Model_retain_42 ⟨Nat.zero_le _, Nat.zero_le _⟩)) (fun r_7 hr_7 => ?_)
          subst hr_7
          refine lv_if_eq (tgt := 65) hx hb d_Model_retain_45 (by decide) (fun c_8 => ?_) (fun c_8 => ?_)
          · have c_8 : (mo_he mI mL mZ zd k) = false := bI_f c_8
            refine lv_iconst (v := 0) hx hb d_Model_retain_65 (by decide) ?_
            refine lv_iadd hx hb d_Model_retain_66 ?_
            refine sy_ti (y := nI (f + 0)) (nI_add f 0) ?_
            refine lv_istore (lv' := [(4, .int (nI (f + 0))), (5, .int (nI k)), (0, .ref ob), (1, .int (nI zd)), (2, .long x)]) hx hb d_Model_retain_67 hl (by decide) rfl (fun ls hl => ?_)
            refine lv_iinc (v := nI (k + 1)) (lv' := [(5, .int (nI (k + 1))), (4, .int (nI (f + 0))), (0, .ref ob), (1, .int (nI zd)), (2, .long x)]) hx hb d_Model_retain_69 hl (k := 1) rfl (nI_add k 1) (by decide) rfl (fun ls hl => ?_)
            refine lv_goto (tgt := 27) hx hb d_Model_retain_72 (by decide) ?_
            refine ih27 (k + 1, f + 0) ls (show sc 1 - (k + 1) < sc 1 - k by omega) ?_ (lv_sub hl [0, 1, 2, 3, 4] rfl)
            exact ⟨by omega, by first | (rw [nn_ct, if_pos (by simp [mo_rp, c_5, c_5n, c_8]; done), ← hI]; done) | (rw [nn_ct, if_neg (by simp [mo_rp, c_5, c_5n, c_8]; done), ← hI]; try rfl)⟩
          · have c_8 : (mo_he mI mL mZ zd k) = true := bI_t c_8
            refine lv_aload_n hx hb d_Model_retain_48 rfl (lv_at hl 2 rfl) ?_
            refine va_get (D := G.1) (ci := 7) (v := .ref (ad 6)) (C := R_Model) (T := F_Model) (N := 23) hx hb ht i_Model hown hK.1 hP 0 rfl rfl 8 (by decide) (ht _ m_513) (fun _ h9 => h9) rfl d_Model_retain_49 ?_
            refine lv_iload hx hb d_Model_retain_52 (lv_at hl 0 rfl) ?_
            refine sy_iald hx hb hK.1 hP 7 0 rfl rfl (k := k) (by omega) (by decide) d_Model_retain_54 ?_
            refine lv_i2l (v := (mI 6 k).toInt64) hx hb d_Model_retain_55 rfl ?_
            refine lv_lload_n hx hb d_Model_retain_56 rfl (lv_at hl 4 rfl) ?_
            refine sy_lc_ge (tgt := 65) hx hb d_Model_retain_57 d_Model_retain_58 (by decide) (fun c_9 => ?_) (fun c_9 => ?_)
            · have c_9n := sy_c64 c_9
              refine lv_iconst (v := 0) hx hb d_Model_retain_65 (by decide) ?_
              refine lv_iadd hx hb d_Model_retain_66 ?_
              refine sy_ti (y := nI (f + 0)) (nI_add f 0) ?_
              refine lv_istore (lv' := [(4, .int (nI (f + 0))), (5, .int (nI k)), (0, .ref ob), (1, .int (nI zd)), (2, .long x)]) hx hb d_Model_retain_67 hl (by decide) rfl (fun ls hl => ?_)
              refine lv_iinc (v := nI (k + 1)) (lv' := [(5, .int (nI (k + 1))), (4, .int (nI (f + 0))), (0, .ref ob), (1, .int (nI zd)), (2, .long x)]) hx hb d_Model_retain_69 hl (k := 1) rfl (nI_add k 1) (by decide) rfl (fun ls hl => ?_)
              refine lv_goto (tgt := 27) hx hb d_Model_retain_72 (by decide) ?_
              refine ih27 (k + 1, f + 0) ls (show sc 1 - (k + 1) < sc 1 - k by omega) ?_ (lv_sub hl [0, 1, 2, 3, 4] rfl)
              exact ⟨by omega, by first | (rw [nn_ct, if_pos (by simp [mo_rp, c_5, c_5n, c_8, c_9, c_9n]; done), ← hI]; done) | (rw [nn_ct, if_neg (by simp [mo_rp, c_5, c_5n, c_8, c_9, c_9n]; done), ← hI]; try rfl)⟩
            · have c_9n := sy_d64 c_9
              refine lv_iconst (v := 1) hx hb d_Model_retain_61 (by decide) ?_
              refine lv_goto (tgt := 66) hx hb d_Model_retain_62 (by decide) ?_
              refine lv_iadd hx hb d_Model_retain_66 ?_
              refine sy_ti (y := nI (f + 1)) (nI_add f 1) ?_
              refine lv_istore (lv' := [(4, .int (nI (f + 1))), (5, .int (nI k)), (0, .ref ob), (1, .int (nI zd)), (2, .long x)]) hx hb d_Model_retain_67 hl (by decide) rfl (fun ls hl => ?_)
              refine lv_iinc (v := nI (k + 1)) (lv' := [(5, .int (nI (k + 1))), (4, .int (nI (f + 1))), (0, .ref ob), (1, .int (nI zd)), (2, .long x)]) hx hb d_Model_retain_69 hl (k := 1) rfl (nI_add k 1) (by decide) rfl (fun ls hl => ?_)
              refine lv_goto (tgt := 27) hx hb d_Model_retain_72 (by decide) ?_
              refine ih27 (k + 1, f + 1) ls (show sc 1 - (k + 1) < sc 1 - k by omega) ?_ (lv_sub hl [0, 1, 2, 3, 4] rfl)
              exact ⟨by omega, by first | (rw [nn_ct, if_pos (by simp [mo_rp, c_5, c_5n, c_8, c_9, c_9n]; done), ← hI]; done) | (rw [nn_ct, if_neg (by simp [mo_rp, c_5, c_5n, c_8, c_9, c_9n]; done), ← hI]; try rfl)⟩
      · exact ⟨Nat.zero_le _, rfl⟩
    · have c_4 : (mo_in x (0 : Int64) (2000000 : Int64)) = false := bI_f c_4
      refine lv_iconst (v := (-1)) hx hb d_Model_retain_19 (by decide) ?_
      exact W.iret (v := (-1 : Int32)) hx hb hr (fun t ht hW => ⟨⟨(-1 : Int32), (sc, mI, mL, mZ), rfl, by first | (constructor <;> simp [mo_retain, c_2, hczd, c_4]; done) | (have e : sc 1 = k := (by omega); constructor <;> simp [mo_retain, e, ← hI, e101, c_2, hczd, c_4]; done), by show va_P _ _ _ t.heap; rw [ht]; exact hP⟩, hS.F ht⟩) hS.2.2 d_Model_retain_20
