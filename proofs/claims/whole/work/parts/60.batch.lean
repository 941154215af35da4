set_option maxHeartbeats 4000000 in
set_option maxRecDepth 100000 in
theorem c_Model_batch (l : Launch) (G : sy_G) (ob : Nat) (ad : Nat → Nat) (sc : Nat → Nat) (mI : Nat → Nat → Int32) (mL : Nat → Nat → Int64) (mZ : Nat → Nat → Bool) (d : Int32) (hs : sc 3 ≤ 6) (hb4 : sc 4 < 2147483647) : Met l y_Model_batch (sy_w y_Model_batch b_Model_batch 4 (some .int)) { frames := 1, cells := 0, slots := 0, locals := 21 } (va_Pc [.ref ob, .int d] (sy_KP G (fun H => va_P G.1 classes (mw G.2 ob ad sc mI mL mZ) H ∧ va_D (fun _ => True) (mw G.2 ob ad sc mI mL mZ)))) (va_Qi (S := ms_S) (fun r u => r = (mo_batch sc mI mL mZ d).1 ∧ u = (mo_batch sc mI mL mZ d).2) (fun u t => va_P G.1 classes (mw G.2 ob ad u.1 u.2.1 u.2.2.1 u.2.2.2) t.heap) (sy_A (mw G.2 ob ad sc mI mL mZ))) 0 0 (sy_A (mw G.2 ob ad sc mI mL mZ)) := by
  refine Met.ofW (cc := b_Model_batch) (maxL := 4) (ret := (some .int)) (by decide) rfl ?_
  intro p e s m args below meth c s₁ B hml hv
  obtain ⟨rfl, ⟨hP, hD0⟩, hK⟩ := hv
  have hx := B.exec
  have hb := B.bytes
  have hr := B.returns
  have hts := atoms_spec (ws := sy_w y_Model_batch b_Model_batch 4 (some .int)) B.pre
  have ht : ∀ wd ∈ sy_T, wd.before ([.ref ob, .int d] : List Value).toArray s = true := fun wd h => hts wd (List.mem_cons_of_mem _ h)
  have hown : s.vm.findClass R_Model = some m.cls := findClass_of_methodNamed B.named
  have hlocks := B.notSynchronized
  have hD := sy_self hD0
  generalize hAe : sy_A (mw G.2 ob ad sc mI mL mZ) = A at hD ⊢
  have hS : va_S A s.heap s.heap [] := va_S.rf
  have hl := lv_entry ([.ref ob, .int d]) (n := 4) (Nat.le_of_ble_eq_true rfl)
  rw [lg_entry_eq]
  generalize (lg_sl ([.ref ob, .int d]) ++ List.replicate (4 - (lg_sl ([.ref ob, .int d])).length) Slot.unset).toArray = ls at hl ⊢
  have hl : lv_has ls 4 [(0, .ref ob), (1, .int d)] := hl
  refine lv_aload_n hx hb d_Model_batch_0 rfl (lv_at hl 0 rfl) ?_
  refine lv_iload_n hx hb d_Model_batch_1 rfl (lv_at hl 1 rfl) ?_
  refine vp_callSi (va_Run.run (sy_runV (As := [.int d]) (rest := []) (b := ob) ⟨hx, hb, hml, hown, ht⟩ cl_Model_96 (c_Model_isSet l G ob ad sc mI mL mZ d (by omega)) hK hP (va_recv hK.1 hP (ci := 7) (q0 := 0) rfl rfl) rfl nm_Model_isSet rfl rfl ⟨Nat.le_of_ble_eq_true rfl, Nat.le_of_ble_eq_true rfl⟩ hl.1 (Nat.le_of_ble_eq_true rfl) d_Model_batch_2 ⟨Nat.zero_le _, Nat.zero_le _⟩)) (fun r_1 hr_1 => ?_)
  subst hr_1
  refine lv_if_eq (tgt := 17) hx hb d_Model_batch_5 (by decide) (fun c_2 => ?_) (fun c_2 => ?_)
  · have c_2 : (mo_ok (sc 3) d) = false := bI_f c_2
    refine lv_iconst (v := (-1)) hx hb d_Model_batch_17 (by decide) ?_
    exact W.iret (v := (-1 : Int32)) hx hb hr (fun t ht hW => ⟨⟨(-1 : Int32), (sc, mI, mL, mZ), rfl, by first | (constructor <;> simp [mo_batch, c_2]; done) | (have e : q = 20 := (by omega); constructor <;> simp [mo_batch, e, upd, ← hc10, ← hc11, c_2]; done), by show va_P _ _ _ t.heap; rw [ht]; exact hP⟩, hS.F ht⟩) hS.2.2 d_Model_batch_18
  · have c_2 : (mo_ok (sc 3) d) = true := bI_t c_2
    obtain ⟨zd, hzd, ezd⟩ := mo_ix (by omega) c_2
    subst ezd
    have hczd : (nI zd).toNatClampNeg = zd := nI_clamp (by omega)
    refine lv_aload_n hx hb d_Model_batch_8 rfl (lv_at hl 0 rfl) ?_
    refine va_get (D := G.1) (ci := 7) (v := .ref (ad 14)) (C := R_Model) (T := F_Model) (N := 23) hx hb ht i_Model hown hK.1 hP 0 rfl rfl 19 (by decide) (ht _ m_524) (fun _ h9 => h9) rfl d_Model_batch_9 ?_
    refine lv_iload_n hx hb d_Model_batch_12 rfl (lv_at hl 1 rfl) ?_
    refine sy_iald hx hb hK.1 hP 15 0 rfl rfl (k := zd) (by omega) (by decide) d_Model_batch_13 ?_
    refine lv_if_lt (tgt := 19) hx hb d_Model_batch_14 (by decide) (fun c_3 => ?_) (fun c_3 => ?_)
    · have c_3n := sy_a32 c_3
      refine lv_bipush (v := 6) hx hb d_Model_batch_19 (by decide) ?_
      refine lv_iload_n hx hb d_Model_batch_21 rfl (lv_at hl 1 rfl) ?_
      refine lv_iadd hx hb d_Model_batch_22 ?_
      refine sy_ti (y := nI (6 + zd)) (nI_add 6 zd) ?_
      refine lv_istore_n (lv' := [(2, .int (nI (6 + zd))), (0, .ref ob), (1, .int (nI zd))]) hx hb d_Model_batch_23 rfl hl (by decide) rfl (fun ls hl => ?_)
      refine lv_aload_n hx hb d_Model_batch_24 rfl (lv_at hl 1 rfl) ?_
      refine va_get (D := G.1) (ci := 7) (v := .ref (ad 13)) (C := R_Model) (T := F_Model) (N := 23) hx hb ht i_Model hown hK.1 hP 0 rfl rfl 18 (by decide) (ht _ m_523) (fun _ h9 => h9) rfl d_Model_batch_25 ?_
      refine lv_iload_n hx hb d_Model_batch_28 rfl (lv_at hl 0 rfl) ?_
      refine lv_lconst (v := 0) hx hb d_Model_batch_29 (by decide) ?_
      refine sy_last hx hb hK.1 hP hD hS 14 1 rfl rfl (k := 6 + zd) (by omega) (by decide) d_Model_batch_30 (fun H locs hP hD hS => ?_)
      rw [mw_s13] at hP hD
      refine lv_iconst (v := 0) hx hb d_Model_batch_31 (by decide) ?_
      refine lv_istore_n (lv' := [(3, .int 0), (2, .int (nI (6 + zd))), (0, .ref ob), (1, .int (nI zd))]) hx hb d_Model_batch_32 rfl hl (by decide) rfl (fun ls hl => ?_)
      refine sy_loopH (σ := Nat) (nL := 4) (fun k => 60 - k) (fun k => [(3, .int (nI k)), (2, .int (nI (6 + zd))), (0, .ref ob), (1, .int (nI zd))]) (fun k H locs => k ≤ 60 ∧ va_P G.1 classes (mw G.2 ob ad sc mI (va_up mL 13 (vp_updL (mL 13) (6 + zd) 0)) (va_up (va_up mZ 10 (mo_clr 60 (6 + zd) (mZ 10) k)) 11 (mo_clr 60 (6 + zd) (mZ 11) k))) H ∧ va_D A (mw G.2 ob ad sc mI (va_up mL 13 (vp_updL (mL 13) (6 + zd) 0)) (va_up (va_up mZ 10 (mo_clr 60 (6 + zd) (mZ 10) k)) 11 (mo_clr 60 (6 + zd) (mZ 11) k))) ∧ va_S A s.heap H locs) ?_ 0 ?_ (lv_sub hl [0, 1, 2, 3] rfl)
      · intro k H locs ls hI hl ih33
        have hl : lv_has ls 4 [(3, .int (nI k)), (2, .int (nI (6 + zd))), (0, .ref ob), (1, .int (nI zd))] := hl
        obtain ⟨hk, hP, hD, hS⟩ := hI
        refine lv_iload_n hx hb d_Model_batch_33 rfl (lv_at hl 0 rfl) ?_
        refine lv_bipush (v := 60) hx hb d_Model_batch_34 (by decide) ?_
        refine lv_icmp_ge (tgt := 69) hx hb d_Model_batch_36 (by decide) (fun c_4 => ?_) (fun c_4 => ?_)
        · have c_4 : 60 ≤ k := (nI_leI (a := 60) (b := k) (by omega) (by omega)).mp c_4
          have c_4n : ¬ k < 60 := by omega
          refine lv_iconst (v := 0) hx hb d_Model_batch_69 (by decide) ?_
          refine lv_istore_n (lv' := [(3, .int 0), (2, .int (nI (6 + zd))), (0, .ref ob), (1, .int (nI zd))]) hx hb d_Model_batch_70 rfl hl (by decide) rfl (fun ls hl => ?_)
          rw [show k = 60 by omega] at hP hD
          generalize hc10 : mo_clr 60 (6 + zd) (mZ 10) 60 = c10 at hP hD
          generalize hc11 : mo_clr 60 (6 + zd) (mZ 11) 60 = c11 at hP hD
          rw [mw_z12, show (va_up (va_up mZ 10 c10) 11 c11) 12 = mZ 12 from rfl] at hP hD
          refine sy_loopH (σ := Nat) (nL := 4) (fun q => 20 - q) (fun q => [(3, .int (nI q)), (2, .int (nI (6 + zd))), (0, .ref ob), (1, .int (nI zd))]) (fun q H locs => q ≤ 20 ∧ va_P G.1 classes (mw G.2 ob ad sc mI (va_up mL 13 (vp_updL (mL 13) (6 + zd) 0)) (va_up (va_up (va_up mZ 10 c10) 11 c11) 12 (mo_clr 20 (6 + zd) (mZ 12) q))) H ∧ va_D A (mw G.2 ob ad sc mI (va_up mL 13 (vp_updL (mL 13) (6 + zd) 0)) (va_up (va_up (va_up mZ 10 c10) 11 c11) 12 (mo_clr 20 (6 + zd) (mZ 12) q))) ∧ va_S A s.heap H locs) ?_ 0 ?_ (lv_sub hl [0, 1, 2, 3] rfl)
          · intro q H locs ls hI hl ih71
            have hl : lv_has ls 4 [(3, .int (nI q)), (2, .int (nI (6 + zd))), (0, .ref ob), (1, .int (nI zd))] := hl
            obtain ⟨hq, hP, hD, hS⟩ := hI
            refine lv_iload_n hx hb d_Model_batch_71 rfl (lv_at hl 0 rfl) ?_
            refine lv_bipush (v := 20) hx hb d_Model_batch_72 (by decide) ?_
            refine lv_icmp_ge (tgt := 95) hx hb d_Model_batch_74 (by decide) (fun c_5 => ?_) (fun c_5 => ?_)
            · have c_5 : 20 ≤ q := (nI_leI (a := 20) (b := q) (by omega) (by omega)).mp c_5
              have c_5n : ¬ q < 20 := by omega
              refine lv_aload_n hx hb d_Model_batch_95 rfl (lv_at hl 2 rfl) ?_
              refine va_get (D := G.1) (ci := 7) (v := .ref (ad 14)) (C := R_Model) (T := F_Model) (N := 23) hx hb ht i_Model hown hK.1 hP 0 rfl rfl 19 (by decide) (ht _ m_524) (fun _ h9 => h9) rfl d_Model_batch_96 ?_
              refine lv_iload_n hx hb d_Model_batch_99 rfl (lv_at hl 3 rfl) ?_
              refine lv_aload_n hx hb d_Model_batch_100 rfl (lv_at hl 2 rfl) ?_
              refine va_get (D := G.1) (ci := 7) (v := .int (nI (sc 4))) (C := R_Model) (T := F_Model) (N := 23) hx hb ht i_Model hown hK.1 hP 0 rfl rfl 14 (by decide) (ht _ m_519) (fun _ h9 => h9) rfl d_Model_batch_101 ?_
              refine sy_iast hx hb hK.1 hP hD hS 15 0 rfl rfl (k := zd) (by omega) (by decide) d_Model_batch_104 (fun H locs hP hD hS => ?_)
              rw [mw_s14] at hP hD
              refine lv_aload_n hx hb d_Model_batch_105 rfl (lv_at hl 2 rfl) ?_
              refine lv_dup hx hb d_Model_batch_106 rfl ?_
              refine va_get (D := G.1) (ci := 7) (v := .int (nI (sc 4))) (C := R_Model) (T := F_Model) (N := 23) hx hb ht i_Model hown hK.1 hP 0 rfl rfl 14 (by decide) (ht _ m_519) (fun _ h9 => h9) rfl d_Model_batch_107 ?_
              refine lv_iconst (v := 1) hx hb d_Model_batch_110 (by decide) ?_
              refine lv_iadd hx hb d_Model_batch_111 ?_
              refine sy_ti (y := nI ((sc 4) + 1)) (nI_add (sc 4) 1) ?_
              refine va_put (D := G.1) (ci := 7) (v := .int (nI ((sc 4) + 1))) (ty := .int) (C := R_Model) (T := F_Model) (N := 23) hx hb ht i_Model t_Model t_Model_ok n_Model hown hK.1 hP hD hS 0 rfl rfl 14 (by decide) (ht _ m_519) (fun _ h9 => h9) rfl (by decide +kernel) rfl rfl (Nat.le_of_ble_eq_true rfl) d_Model_batch_112 (fun H locs hP hD hS => ?_)
              have hP : va_P G.1 classes (mw G.2 ob ad (va_up sc 4 ((sc 4) + 1)) (va_up mI 14 (upd (mI 14) zd (nI (sc 4)))) (va_up mL 13 (vp_updL (mL 13) (6 + zd) (0 : Int64))) (va_up (va_up (va_up mZ 10 (c10)) 11 (c11)) 12 (mo_clr 20 (6 + zd) (mZ 12) q))) H := hP
              have hD : va_D A (mw G.2 ob ad (va_up sc 4 ((sc 4) + 1)) (va_up mI 14 (upd (mI 14) zd (nI (sc 4)))) (va_up mL 13 (vp_updL (mL 13) (6 + zd) (0 : Int64))) (va_up (va_up (va_up mZ 10 (c10)) 11 (c11)) 12 (mo_clr 20 (6 + zd) (mZ 12) q))) := hD
              refine lv_aload_n hx hb d_Model_batch_115 rfl (lv_at hl 2 rfl) ?_
              refine va_get (D := G.1) (ci := 7) (v := .ref (ad 14)) (C := R_Model) (T := F_Model) (N := 23) hx hb ht i_Model hown hK.1 hP 0 rfl rfl 19 (by decide) (ht _ m_524) (fun _ h9 => h9) rfl d_Model_batch_116 ?_
              refine lv_iload_n hx hb d_Model_batch_119 rfl (lv_at hl 3 rfl) ?_
              refine sy_iald hx hb hK.1 hP 15 0 rfl rfl (k := zd) (by omega) (by decide) d_Model_batch_120 ?_
              refine sy_ti (y := (upd (mI 14) zd (nI (sc 4))) zd) rfl ?_
              exact W.iret (v := (upd (mI 14) zd (nI (sc 4))) zd) hx hb hr (fun t ht hW => ⟨⟨(upd (mI 14) zd (nI (sc 4))) zd, (va_up sc 4 ((sc 4) + 1), va_up mI 14 (upd (mI 14) zd (nI (sc 4))), va_up mL 13 (vp_updL (mL 13) (6 + zd) (0 : Int64)), va_up (va_up (va_up mZ 10 (c10)) 11 (c11)) 12 (mo_clr 20 (6 + zd) (mZ 12) q)), rfl, by first | (constructor <;> simp [mo_batch, c_2, hczd, c_3, c_3n, c_4, c_4n, c_5, c_5n]; done) | (have e : q = 20 := (by omega); constructor <;> simp [mo_batch, e, upd, ← hc10, ← hc11, c_2, hczd, c_3, c_3n, c_4, c_4n, c_5, c_5n]; done), by show va_P _ _ _ t.heap; rw [ht]; exact hP⟩, hS.F ht⟩) hS.2.2 d_Model_batch_121
            · have c_5 : ¬ 20 ≤ q := fun h9 => c_5 ((nI_leI (a := 20) (b := q) (by omega) (by omega)).mpr h9)
              have c_5n : q < 20 := by omega
              refine lv_aload_n hx hb d_Model_batch_77 rfl (lv_at hl 2 rfl) ?_
              refine va_get (D := G.1) (ci := 7) (v := .ref (ad 12)) (C := R_Model) (T := F_Model) (N := 23) hx hb ht i_Model hown hK.1 hP 0 rfl rfl 17 (by decide) (ht _ m_522) (fun _ h9 => h9) rfl d_Model_batch_78 ?_
              refine lv_bipush (v := 20) hx hb d_Model_batch_81 (by decide) ?_
              refine lv_iload_n hx hb d_Model_batch_83 rfl (lv_at hl 1 rfl) ?_
              refine lv_imul hx hb d_Model_batch_84 ?_
              refine sy_ti (y := nI (20 * (6 + zd))) (pk_mul 20 (6 + zd)) ?_
              refine lv_iload_n hx hb d_Model_batch_85 rfl (lv_at hl 0 rfl) ?_
              refine lv_iadd hx hb d_Model_batch_86 ?_
              refine sy_ti (y := nI ((20 * (6 + zd)) + q)) (nI_add (20 * (6 + zd)) q) ?_
              refine lv_iconst (v := 0) hx hb d_Model_batch_87 (by decide) ?_
              refine sy_zast hx hb hK.1 hP hD hS 13 2 rfl rfl (k := (20 * (6 + zd)) + q) (b := false) (by omega) (by decide) d_Model_batch_88 (fun H locs hP hD hS => ?_)
              rw [show (va_up (va_up (va_up mZ 10 (c10)) 11 (c11)) 12 (mo_clr 20 (6 + zd) (mZ 12) q)) 12 = mo_clr 20 (6 + zd) (mZ 12) q from rfl, mw_s12, bx_uu] at hP hD
              refine lv_iinc (v := nI (q + 1)) (lv' := [(3, .int (nI (q + 1))), (2, .int (nI (6 + zd))), (0, .ref ob), (1, .int (nI zd))]) hx hb d_Model_batch_89 hl (k := 0) rfl (nI_add q 1) (by decide) rfl (fun ls hl => ?_)
              refine lv_goto (tgt := 71) hx hb d_Model_batch_92 (by decide) ?_
              refine ih71 (q + 1) _ _ ls (show 20 - (q + 1) < 20 - q by omega) ?_ (lv_sub hl [0, 1, 2, 3] rfl)
              exact ⟨by omega, by rw [mo_clr_s 20 (6 + zd) (mZ 12) q]; exact hP, by rw [mo_clr_s 20 (6 + zd) (mZ 12) q]; exact hD, hS⟩
          · exact ⟨Nat.zero_le _, hP, hD, hS⟩
        · have c_4 : ¬ 60 ≤ k := fun h9 => c_4 ((nI_leI (a := 60) (b := k) (by omega) (by omega)).mpr h9)
          have c_4n : k < 60 := by omega
          refine lv_aload_n hx hb d_Model_batch_39 rfl (lv_at hl 2 rfl) ?_
          refine va_get (D := G.1) (ci := 7) (v := .ref (ad 10)) (C := R_Model) (T := F_Model) (N := 23) hx hb ht i_Model hown hK.1 hP 0 rfl rfl 15 (by decide) (ht _ m_520) (fun _ h9 => h9) rfl d_Model_batch_40 ?_
          refine lv_bipush (v := 60) hx hb d_Model_batch_43 (by decide) ?_
          refine lv_iload_n hx hb d_Model_batch_45 rfl (lv_at hl 1 rfl) ?_
          refine lv_imul hx hb d_Model_batch_46 ?_
          refine sy_ti (y := nI (60 * (6 + zd))) (pk_mul 60 (6 + zd)) ?_
          refine lv_iload_n hx hb d_Model_batch_47 rfl (lv_at hl 0 rfl) ?_
          refine lv_iadd hx hb d_Model_batch_48 ?_
          refine sy_ti (y := nI ((60 * (6 + zd)) + k)) (nI_add (60 * (6 + zd)) k) ?_
          refine lv_iconst (v := 0) hx hb d_Model_batch_49 (by decide) ?_
          refine sy_zast hx hb hK.1 hP hD hS 11 2 rfl rfl (k := (60 * (6 + zd)) + k) (b := false) (by omega) (by decide) d_Model_batch_50 (fun H locs hP hD hS => ?_)
          have hP : va_P G.1 classes (mw G.2 ob ad sc mI (va_up mL 13 (vp_updL (mL 13) (6 + zd) (0 : Int64))) (va_up (va_up mZ 10 (va_up (mo_clr 60 (6 + zd) (mZ 10) k) ((60 * (6 + zd)) + k) false)) 11 (mo_clr 60 (6 + zd) (mZ 11) k))) H := hP
          have hD : va_D A (mw G.2 ob ad sc mI (va_up mL 13 (vp_updL (mL 13) (6 + zd) (0 : Int64))) (va_up (va_up mZ 10 (va_up (mo_clr 60 (6 + zd) (mZ 10) k) ((60 * (6 + zd)) + k) false)) 11 (mo_clr 60 (6 + zd) (mZ 11) k))) := hD
          refine lv_aload_n hx hb d_Model_batch_51 rfl (lv_at hl 2 rfl) ?_
          refine va_get (D := G.1) (ci := 7) (v := .ref (ad 11)) (C := R_Model) (T := F_Model) (N := 23) hx hb ht i_Model hown hK.1 hP 0 rfl rfl 16 (by decide) (ht _ m_521) (fun _ h9 => h9) rfl d_Model_batch_52 ?_
          refine lv_bipush (v := 60) hx hb d_Model_batch_55 (by decide) ?_
          refine lv_iload_n hx hb d_Model_batch_57 rfl (lv_at hl 1 rfl) ?_
          refine lv_imul hx hb d_Model_batch_58 ?_
          refine sy_ti (y := nI (60 * (6 + zd))) (pk_mul 60 (6 + zd)) ?_
          refine lv_iload_n hx hb d_Model_batch_59 rfl (lv_at hl 0 rfl) ?_
          refine lv_iadd hx hb d_Model_batch_60 ?_
          refine sy_ti (y := nI ((60 * (6 + zd)) + k)) (nI_add (60 * (6 + zd)) k) ?_
          refine lv_iconst (v := 0) hx hb d_Model_batch_61 (by decide) ?_
          refine sy_zast hx hb hK.1 hP hD hS 12 2 rfl rfl (k := (60 * (6 + zd)) + k) (b := false) (by omega) (by decide) d_Model_batch_62 (fun H locs hP hD hS => ?_)
          rw [show (va_up (va_up mZ 10 (va_up (mo_clr 60 (6 + zd) (mZ 10) k) ((60 * (6 + zd)) + k) false)) 11 (mo_clr 60 (6 + zd) (mZ 11) k)) 11 = mo_clr 60 (6 + zd) (mZ 11) k from rfl, mw_s11, bx_uu] at hP hD
          refine lv_iinc (v := nI (k + 1)) (lv' := [(3, .int (nI (k + 1))), (2, .int (nI (6 + zd))), (0, .ref ob), (1, .int (nI zd))]) hx hb d_Model_batch_63 hl (k := 0) rfl (nI_add k 1) (by decide) rfl (fun ls hl => ?_)
          refine lv_goto (tgt := 33) hx hb d_Model_batch_66 (by decide) ?_
          refine ih33 (k + 1) _ _ ls (show 60 - (k + 1) < 60 - k by omega) ?_ (lv_sub hl [0, 1, 2, 3] rfl)
          exact ⟨by omega, by rw [mo_clr_s 60 (6 + zd) (mZ 10) k, mo_clr_s 60 (6 + zd) (mZ 11) k]; exact hP, by rw [mo_clr_s 60 (6 + zd) (mZ 10) k, mo_clr_s 60 (6 + zd) (mZ 11) k]; exact hD, hS⟩
      · exact ⟨Nat.zero_le _, hP, hD, hS⟩
    · have c_3n := sy_b32 c_3
      refine lv_iconst (v := (-1)) hx hb d_Model_batch_17 (by decide) ?_
      exact W.iret (v := (-1 : Int32)) hx hb hr (fun t ht hW => ⟨⟨(-1 : Int32), (sc, mI, mL, mZ), rfl, by first | (constructor <;> simp [mo_batch, c_2, hczd, c_3, c_3n]; done) | (have e : q = 20 := (by omega); constructor <;> simp [mo_batch, e, upd, ← hc10, ← hc11, c_2, hczd, c_3, c_3n]; done), by show va_P _ _ _ t.heap; rw [ht]; exact hP⟩, hS.F ht⟩) hS.2.2 d_Model_batch_18
