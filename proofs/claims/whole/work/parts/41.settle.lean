set_option maxHeartbeats 4000000 in
set_option maxRecDepth 100000 in
theorem c_Model_settle (l : Launch) (G : sy_G) (ob : Nat) (ad : Nat → Nat) (sc : Nat → Nat) (mI : Nat → Nat → Int32) (mL : Nat → Nat → Int64) (mZ : Nat → Nat → Bool) (d : Int32) (dv : Int32) (kd : Int32) (wh : Int32) (hn : sc 1 ≤ 60) (hs : sc 3 ≤ 6) : Met l y_Model_settle (sy_w y_Model_settle b_Model_settle 9 (some .int)) { frames := 4, cells := 0, slots := 0, locals := 92 } (va_Pc [.ref ob, .int d, .int dv, .int kd, .int wh] (sy_KP G (fun H => va_P G.1 classes (mw G.2 ob ad sc mI mL mZ) H ∧ va_D (fun _ => True) (mw G.2 ob ad sc mI mL mZ)))) (va_Qi (S := ms_S) (fun r u => r = (mo_settle sc mI mL mZ d dv kd wh).1 ∧ u = (mo_settle sc mI mL mZ d dv kd wh).2) (fun u t => va_P G.1 classes (mw G.2 ob ad u.1 u.2.1 u.2.2.1 u.2.2.2) t.heap) (sy_A (mw G.2 ob ad sc mI mL mZ))) 0 0 (sy_A (mw G.2 ob ad sc mI mL mZ)) := by
  refine Met.ofW (cc := b_Model_settle) (maxL := 9) (ret := (some .int)) (by decide) rfl ?_
  intro p e s m args below meth c s₁ B hml hv
  obtain ⟨rfl, ⟨hP, hD0⟩, hK⟩ := hv
  have hx := B.exec
  have hb := B.bytes
  have hr := B.returns
  have hts := atoms_spec (ws := sy_w y_Model_settle b_Model_settle 9 (some .int)) B.pre
  have ht : ∀ wd ∈ sy_T, wd.before ([.ref ob, .int d, .int dv, .int kd, .int wh] : List Value).toArray s = true := fun wd h => hts wd (List.mem_cons_of_mem _ h)
  have hown : s.vm.findClass R_Model = some m.cls := findClass_of_methodNamed B.named
  have hlocks := B.notSynchronized
  have hD := sy_self hD0
  generalize hAe : sy_A (mw G.2 ob ad sc mI mL mZ) = A at hD ⊢
  have hS : va_S A s.heap s.heap [] := va_S.rf
  have hl := lv_entry ([.ref ob, .int d, .int dv, .int kd, .int wh]) (n := 9) (Nat.le_of_ble_eq_true rfl)
  rw [lg_entry_eq]
  generalize (lg_sl ([.ref ob, .int d, .int dv, .int kd, .int wh]) ++ List.replicate (9 - (lg_sl ([.ref ob, .int d, .int dv, .int kd, .int wh])).length) Slot.unset).toArray = ls at hl ⊢
  have hl : lv_has ls 9 [(0, .ref ob), (1, .int d), (2, .int dv), (3, .int kd), (4, .int wh)] := hl
  refine lv_iconst (v := (-1)) hx hb d_Model_settle_0 (by decide) ?_
  refine lv_istore (lv' := [(5, .int (-1)), (0, .ref ob), (1, .int d), (2, .int dv), (3, .int kd), (4, .int wh)]) hx hb d_Model_settle_1 hl (by decide) rfl (fun ls hl => ?_)
  refine lv_iconst (v := 0) hx hb d_Model_settle_3 (by decide) ?_
  refine lv_istore (lv' := [(6, .int 0), (5, .int (-1)), (0, .ref ob), (1, .int d), (2, .int dv), (3, .int kd), (4, .int wh)]) hx hb d_Model_settle_4 hl (by decide) rfl (fun ls hl => ?_)
  refine sy_loop (σ := Nat × Option Nat) (nL := 9) (fun x6 => match x6 with | (k, o) => sc 1 - k) (fun x6 => match x6 with | (k, o) => [(6, .int (nI k)), (5, .int (oI o)), (0, .ref ob), (1, .int d), (2, .int dv), (3, .int kd), (4, .int wh)]) (fun x6 => match x6 with | (k, o) => k ≤ sc 1 ∧ o = nn_fm (mo_tp sc mI mL mZ d dv kd) (mo_kb mI) k) ?_ (0, none) ?_ (lv_sub hl [0, 1, 2, 3, 4, 5, 6] rfl)
  · intro x6 ls hI hl ih6
    obtain ⟨k, o⟩ := x6
    have hl : lv_has ls 9 [(6, .int (nI k)), (5, .int (oI o)), (0, .ref ob), (1, .int d), (2, .int dv), (3, .int kd), (4, .int wh)] := hl
    obtain ⟨hk, hI⟩ := hI
    refine lv_iload hx hb d_Model_settle_6 (lv_at hl 0 rfl) ?_
    refine lv_aload_n hx hb d_Model_settle_8 rfl (lv_at hl 2 rfl) ?_
    refine va_get (D := G.1) (ci := 7) (v := .int (nI (sc 1))) (C := R_Model) (T := F_Model) (N := 23) hx hb ht i_Model hown hK.1 hP 0 rfl rfl 3 (by decide) (ht _ m_508) (fun _ h9 => h9) rfl d_Model_settle_9 ?_
    refine lv_icmp_ge (tgt := 98) hx hb d_Model_settle_12 (by decide) (fun c_1 => ?_) (fun c_1 => ?_)
    · have c_1 : (sc 1) ≤ k := (nI_leI (a := sc 1) (b := k) (by omega) (by omega)).mp c_1
      have c_1n : ¬ k < (sc 1) := by omega
      refine lv_iconst (v := 0) hx hb d_Model_settle_98 (by decide) ?_
      refine lv_istore (lv' := [(6, .int 0), (5, .int (oI o)), (0, .ref ob), (1, .int d), (2, .int dv), (3, .int kd), (4, .int wh)]) hx hb d_Model_settle_99 hl (by decide) rfl (fun ls hl => ?_)
      refine sy_loop (σ := Nat) (nL := 9) (fun q => sc 1 - q) (fun q => [(6, .int (nI q)), (5, .int (oI o)), (0, .ref ob), (1, .int d), (2, .int dv), (3, .int kd), (4, .int wh)]) (fun q => q ≤ sc 1 ∧ nn_ff (mo_tq sc mI mL mZ d wh o) q = none) ?_ 0 ?_ (lv_sub hl [0, 1, 2, 3, 4, 5, 6] rfl)
      · intro q ls hI hl ih101
        have hl : lv_has ls 9 [(6, .int (nI q)), (5, .int (oI o)), (0, .ref ob), (1, .int d), (2, .int dv), (3, .int kd), (4, .int wh)] := hl
        obtain ⟨hq, hJ⟩ := hI
        refine lv_iload hx hb d_Model_settle_101 (lv_at hl 0 rfl) ?_
        refine lv_aload_n hx hb d_Model_settle_103 rfl (lv_at hl 2 rfl) ?_
        refine va_get (D := G.1) (ci := 7) (v := .int (nI (sc 1))) (C := R_Model) (T := F_Model) (N := 23) hx hb ht i_Model hown hK.1 hP 0 rfl rfl 3 (by decide) (ht _ m_508) (fun _ h9 => h9) rfl d_Model_settle_104 ?_
        refine lv_icmp_ge (tgt := 238) hx hb d_Model_settle_107 (by decide) (fun c_2 => ?_) (fun c_2 => ?_)
        · have c_2 : (sc 1) ≤ q := (nI_leI (a := sc 1) (b := q) (by omega) (by omega)).mp c_2
          have c_2n : ¬ q < (sc 1) := by omega
          refine lv_iconst (v := (-1)) hx hb d_Model_settle_238 (by decide) ?_
          exact W.iret (v := (-1 : Int32)) hx hb hr (fun t ht hW => ⟨⟨(-1 : Int32), (sc, mI, mL, mZ), rfl, by have e1 : sc 1 ≤ k := (by omega); have e2 : sc 1 = k := (by omega); have f1 := hI.symm; rw [← e2] at f1; first | (constructor <;> (rw [mo_settle, f1, nn_ff_no]; all_goals first | rfl | (intro i hi; rfl)); done) | (have f2 := hJ; rw [show q = sc 1 by omega] at f2; constructor <;> (rw [mo_settle, f1, f2]; rfl)) | (have hb9 : nn_ct (mo_tr mI mL mZ zd jf q) (sc 1) = b := (by rw [hB, show r = sc 1 by omega]); have e : nn_ff (mo_tq sc mI mL mZ (nI zd) wh (some jf)) (sc 1) = some q := nn_ff_of (by omega) hJ (by simp [mo_tq, hb9, c_1, c_1n, c_2, c_2n]; done); constructor <;> (rw [mo_settle, f1, e, hczd]; rfl)), by show va_P _ _ _ t.heap; rw [ht]; exact hP⟩, hS.F ht⟩) hS.2.2 d_Model_settle_239
        · have c_2 : ¬ (sc 1) ≤ q := fun h9 => c_2 ((nI_leI (a := sc 1) (b := q) (by omega) (by omega)).mpr h9)
          have c_2n : q < (sc 1) := by omega
          refine lv_iload hx hb d_Model_settle_110 (lv_at hl 1 rfl) ?_
          rcases o with _ | j_3
          · have hl : lv_has ls 9 [(6, .int (nI q)), (5, .int (-1)), (0, .ref ob), (1, .int d), (2, .int dv), (3, .int kd), (4, .int wh)] := hl
            refine lv_if_lt (tgt := 238) hx hb d_Model_settle_112 (by decide) (fun c_4 => ?_) (fun c_4 => absurd (by decide) c_4)
            refine lv_iconst (v := (-1)) hx hb d_Model_settle_238 (by decide) ?_
            exact W.iret (v := (-1 : Int32)) hx hb hr (fun t ht hW => ⟨⟨(-1 : Int32), (sc, mI, mL, mZ), rfl, by have e1 : sc 1 ≤ k := (by omega); have e2 : sc 1 = k := (by omega); have f1 := hI.symm; rw [← e2] at f1; first | (constructor <;> (rw [mo_settle, f1, nn_ff_no]; all_goals first | rfl | (intro i hi; rfl)); done) | (have f2 := hJ; rw [show q = sc 1 by omega] at f2; constructor <;> (rw [mo_settle, f1, f2]; rfl)) | (have hb9 : nn_ct (mo_tr mI mL mZ zd jf q) (sc 1) = b := (by rw [hB, show r = sc 1 by omega]); have e : nn_ff (mo_tq sc mI mL mZ (nI zd) wh (some jf)) (sc 1) = some q := nn_ff_of (by omega) hJ (by simp [mo_tq, hb9, c_1, c_1n, c_2, c_2n, c_4]; done); constructor <;> (rw [mo_settle, f1, e, hczd]; rfl)), by show va_P _ _ _ t.heap; rw [ht]; exact hP⟩, hS.F ht⟩) hS.2.2 d_Model_settle_239
          · have hl : lv_has ls 9 [(6, .int (nI q)), (5, .int (nI j_3)), (0, .ref ob), (1, .int d), (2, .int dv), (3, .int kd), (4, .int wh)] := hl
            have hj_3 : j_3 < k := nn_fm_lt hI.symm
            refine lv_if_lt (tgt := 238) hx hb d_Model_settle_112 (by decide) (fun c_5 => absurd c_5 (nI_pos (by omega))) (fun c_5 => ?_)
            have hset : mo_ok (sc 3) d = true := (by have h9 := nn_fm_p hI.symm; simp only [mo_tp, Bool.and_eq_true] at h9; exact h9.1)
            obtain ⟨zd, hzd, ezd⟩ := mo_ix (by omega) hset
            subst ezd
            have hczd : (nI zd).toNatClampNeg = zd := nI_clamp (by omega)
            obtain ⟨jf, hjf⟩ : ∃ z9, z9 = j_3 := ⟨_, rfl⟩
            subst hjf
            refine lv_aload_n hx hb d_Model_settle_115 rfl (lv_at hl 2 rfl) ?_
            refine lv_iload hx hb d_Model_settle_116 (lv_at hl 0 rfl) ?_
            refine lv_iload hx hb d_Model_settle_118 (lv_at hl 1 rfl) ?_
            refine vp_callSi (va_Run.run (sy_runV (As := [.int (nI q), .int (nI jf)]) (rest := []) (b := ob) ⟨hx, hb, hml, hown, ht⟩ cl_Model_115 (c_Model_isSameKey l G ob ad sc mI mL mZ q jf (by omega) (by omega)) hK hP (va_recv hK.1 hP (ci := 7) (q0 := 0) rfl rfl) rfl nm_Model_isSameKey rfl rfl ⟨Nat.le_of_ble_eq_true rfl, Nat.le_of_ble_eq_true rfl⟩ hl.1 (Nat.le_of_ble_eq_true rfl) d_Model_settle_120 ⟨Nat.zero_le _, Nat.zero_le _⟩)) (fun r_6 hr_6 => ?_)
            subst hr_6
            refine lv_if_eq (tgt := 232) hx hb d_Model_settle_123 (by decide) (fun c_7 => ?_) (fun c_7 => ?_)
            · have c_7 : (mo_sk mI q jf) = false := bI_f c_7
              refine lv_iinc (v := nI (q + 1)) (lv' := [(6, .int (nI (q + 1))), (5, .int (nI jf)), (0, .ref ob), (1, .int (nI zd)), (2, .int dv), (3, .int kd), (4, .int wh)]) hx hb d_Model_settle_232 hl (k := 0) rfl (nI_add q 1) (by decide) rfl (fun ls hl => ?_)
              refine lv_goto (tgt := 101) hx hb d_Model_settle_235 (by decide) ?_
              refine ih101 (q + 1) ls (show sc 1 - (q + 1) < sc 1 - q by omega) ?_ (lv_sub hl [0, 1, 2, 3, 4, 5, 6] rfl)
              exact ⟨by omega, by first | (simp [nn_ff, hJ, mo_tq, c_1, c_1n, c_2, c_2n, c_5, hczd, hset, c_7]; done) | (have hb9 : nn_ct (mo_tr mI mL mZ zd jf q) (sc 1) = b := (by rw [hB, show r = sc 1 by omega]); simp [nn_ff, hJ, mo_tq, hb9, c_1, c_1n, c_2, c_2n, c_5, hczd, hset, c_7]; done)⟩
            · have c_7 : (mo_sk mI q jf) = true := bI_t c_7
              refine lv_aload_n hx hb d_Model_settle_126 rfl (lv_at hl 2 rfl) ?_
              refine lv_iload_n hx hb d_Model_settle_127 rfl (lv_at hl 3 rfl) ?_
              refine lv_iload hx hb d_Model_settle_128 (lv_at hl 0 rfl) ?_
              refine vp_callSi (va_Run.run (sy_runV (As := [.int (nI zd), .int (nI q)]) (rest := []) (b := ob) ⟨hx, hb, hml, hown, ht⟩ cl_Model_109 (c_Model_isHere l G ob ad sc mI mL mZ zd q (by omega) (by omega)) hK hP (va_recv hK.1 hP (ci := 7) (q0 := 0) rfl rfl) rfl nm_Model_isHere rfl rfl ⟨Nat.le_of_ble_eq_true rfl, Nat.le_of_ble_eq_true rfl⟩ hl.1 (Nat.le_of_ble_eq_true rfl) d_Model_settle_130 ⟨Nat.zero_le _, Nat.zero_le _⟩)) (fun r_8 hr_8 => ?_)
              subst hr_8
              refine lv_if_eq (tgt := 232) hx hb d_Model_settle_133 (by decide) (fun c_9 => ?_) (fun c_9 => ?_)
              · have c_9 : (mo_he mI mL mZ zd q) = false := bI_f c_9
                refine lv_iinc (v := nI (q + 1)) (lv' := [(6, .int (nI (q + 1))), (5, .int (nI jf)), (0, .ref ob), (1, .int (nI zd)), (2, .int dv), (3, .int kd), (4, .int wh)]) hx hb d_Model_settle_232 hl (k := 0) rfl (nI_add q 1) (by decide) rfl (fun ls hl => ?_)
                refine lv_goto (tgt := 101) hx hb d_Model_settle_235 (by decide) ?_
                refine ih101 (q + 1) ls (show sc 1 - (q + 1) < sc 1 - q by omega) ?_ (lv_sub hl [0, 1, 2, 3, 4, 5, 6] rfl)
                exact ⟨by omega, by first | (simp [nn_ff, hJ, mo_tq, c_1, c_1n, c_2, c_2n, c_5, hczd, hset, c_7, c_9]; done) | (have hb9 : nn_ct (mo_tr mI mL mZ zd jf q) (sc 1) = b := (by rw [hB, show r = sc 1 by omega]); simp [nn_ff, hJ, mo_tq, hb9, c_1, c_1n, c_2, c_2n, c_5, hczd, hset, c_7, c_9]; done)⟩
              · have c_9 : (mo_he mI mL mZ zd q) = true := bI_t c_9
                refine lv_iconst (v := 0) hx hb d_Model_settle_136 (by decide) ?_
                refine lv_istore (lv' := [(7, .int 0), (6, .int (nI q)), (5, .int (nI jf)), (0, .ref ob), (1, .int (nI zd)), (2, .int dv), (3, .int kd), (4, .int wh)]) hx hb d_Model_settle_137 hl (by decide) rfl (fun ls hl => ?_)
                refine lv_iconst (v := 0) hx hb d_Model_settle_139 (by decide) ?_
                refine lv_istore (lv' := [(8, .int 0), (7, .int 0), (6, .int (nI q)), (5, .int (nI jf)), (0, .ref ob), (1, .int (nI zd)), (2, .int dv), (3, .int kd), (4, .int wh)]) hx hb d_Model_settle_140 hl (by decide) rfl (fun ls hl => ?_)
                refine sy_loop (σ := Nat × Nat) (nL := 9) (fun x142 => match x142 with | (r, b) => sc 1 - r) (fun x142 => match x142 with | (r, b) => [(8, .int (nI r)), (7, .int (nI b)), (6, .int (nI q)), (5, .int (nI jf)), (0, .ref ob), (1, .int (nI zd)), (2, .int dv), (3, .int kd), (4, .int wh)]) (fun x142 => match x142 with | (r, b) => r ≤ sc 1 ∧ b = nn_ct (mo_tr mI mL mZ zd jf q) r) ?_ (0, 0) ?_ (lv_sub hl [0, 1, 2, 3, 4, 5, 6, 7, 8] rfl)
                · intro x142 ls hI hl ih142
                  obtain ⟨r, b⟩ := x142
                  have hl : lv_has ls 9 [(8, .int (nI r)), (7, .int (nI b)), (6, .int (nI q)), (5, .int (nI jf)), (0, .ref ob), (1, .int (nI zd)), (2, .int dv), (3, .int kd), (4, .int wh)] := hl
                  obtain ⟨hr2, hB⟩ := hI
                  refine lv_iload hx hb d_Model_settle_142 (lv_at hl 0 rfl) ?_
                  refine lv_aload_n hx hb d_Model_settle_144 rfl (lv_at hl 4 rfl) ?_
                  refine va_get (D := G.1) (ci := 7) (v := .int (nI (sc 1))) (C := R_Model) (T := F_Model) (N := 23) hx hb ht i_Model hown hK.1 hP 0 rfl rfl 3 (by decide) (ht _ m_508) (fun _ h9 => h9) rfl d_Model_settle_145 ?_
                  refine lv_icmp_ge (tgt := 206) hx hb d_Model_settle_148 (by decide) (fun c_10 => ?_) (fun c_10 => ?_)
                  · have c_10 : (sc 1) ≤ r := (nI_leI (a := sc 1) (b := r) (by omega) (by omega)).mp c_10
                    have c_10n : ¬ r < (sc 1) := by omega
                    refine lv_iload hx hb d_Model_settle_206 (lv_at hl 1 rfl) ?_
                    refine lv_iload hx hb d_Model_settle_208 (lv_at hl 8 rfl) ?_
                    refine lv_icmp_ne (tgt := 232) hx hb d_Model_settle_210 (by decide) (fun c_11 => ?_) (fun c_11 => ?_)
                    · refine lv_iinc (v := nI (q + 1)) (lv' := [(6, .int (nI (q + 1))), (8, .int (nI r)), (7, .int (nI b)), (5, .int (nI jf)), (0, .ref ob), (1, .int (nI zd)), (2, .int dv), (3, .int kd), (4, .int wh)]) hx hb d_Model_settle_232 hl (k := 2) rfl (nI_add q 1) (by decide) rfl (fun ls hl => ?_)
                      refine lv_goto (tgt := 101) hx hb d_Model_settle_235 (by decide) ?_
                      refine ih101 (q + 1) ls (show sc 1 - (q + 1) < sc 1 - q by omega) ?_ (lv_sub hl [0, 3, 4, 5, 6, 7, 8] rfl)
                      exact ⟨by omega, by first | (simp [nn_ff, hJ, mo_tq, c_1, c_1n, c_2, c_2n, c_5, hczd, hset, c_7, c_9, c_10, c_10n, c_11]; done) | (have hb9 : nn_ct (mo_tr mI mL mZ zd jf q) (sc 1) = b := (by rw [hB, show r = sc 1 by omega]); simp [nn_ff, hJ, mo_tq, hb9, c_1, c_1n, c_2, c_2n, c_5, hczd, hset, c_7, c_9, c_10, c_10n, c_11]; done)⟩
                    · refine lv_aload_n hx hb d_Model_settle_213 rfl (lv_at hl 4 rfl) ?_
                      refine va_get (D := G.1) (ci := 7) (v := .ref (ad 11)) (C := R_Model) (T := F_Model) (N := 23) hx hb ht i_Model hown hK.1 hP 0 rfl rfl 16 (by decide) (ht _ m_521) (fun _ h9 => h9) rfl d_Model_settle_214 ?_
                      refine lv_bipush (v := 60) hx hb d_Model_settle_217 (by decide) ?_
                      refine lv_iload_n hx hb d_Model_settle_219 rfl (lv_at hl 5 rfl) ?_
                      refine lv_imul hx hb d_Model_settle_220 ?_
                      refine sy_ti (y := nI (60 * zd)) (pk_mul 60 zd) ?_
                      refine lv_iload hx hb d_Model_settle_221 (lv_at hl 2 rfl) ?_
                      refine lv_iadd hx hb d_Model_settle_223 ?_
                      refine sy_ti (y := nI ((60 * zd) + q)) (nI_add (60 * zd) q) ?_
                      refine lv_iconst (v := 1) hx hb d_Model_settle_224 (by decide) ?_
                      refine sy_zast hx hb hK.1 hP hD hS 12 2 rfl rfl (k := (60 * zd) + q) (b := true) (by omega) (by decide) d_Model_settle_225 (fun H locs hP hD hS => ?_)
                      rw [mw_s11] at hP hD
                      refine lv_aload_n hx hb d_Model_settle_226 rfl (lv_at hl 4 rfl) ?_
                      refine lv_iload_n hx hb d_Model_settle_227 rfl (lv_at hl 5 rfl) ?_
                      refine vp_callSi (va_Run.run (sy_runV (As := [.int (nI zd)]) (rest := []) (b := ob) ⟨hx, hb, hml, hown, ht⟩ cl_Model_102 (c_Model_conflicts l G ob ad sc mI mL (va_up mZ 11 (va_up (mZ 11) ((60 * zd) + q) true)) zd hn (by omega)) hK hP (va_recv hK.1 hP (ci := 7) (q0 := 0) rfl rfl) rfl nm_Model_conflicts rfl rfl ⟨Nat.le_of_ble_eq_true rfl, Nat.le_of_ble_eq_true rfl⟩ hl.1 (Nat.le_of_ble_eq_true rfl) d_Model_settle_228 ⟨Nat.zero_le _, Nat.zero_le _⟩)) (fun r_12 hr_12 => ?_)
                      subst hr_12
                      exact W.iret (v := nI (mo_cn mI mL (va_up mZ 11 (va_up (mZ 11) ((60 * zd) + q) true)) (sc 1) zd)) hx hb hr (fun t ht hW => ⟨⟨nI (mo_cn mI mL (va_up mZ 11 (va_up (mZ 11) ((60 * zd) + q) true)) (sc 1) zd), (sc, mI, mL, va_up mZ 11 (va_up (mZ 11) ((60 * zd) + q) true)), rfl, by have e1 : sc 1 ≤ k := (by omega); have e2 : sc 1 = k := (by omega); have f1 := hI.symm; rw [← e2] at f1; first | (constructor <;> (rw [mo_settle, f1, nn_ff_no]; all_goals first | rfl | (intro i hi; rfl)); done) | (have f2 := hJ; rw [show q = sc 1 by omega] at f2; constructor <;> (rw [mo_settle, f1, f2]; rfl)) | (have hb9 : nn_ct (mo_tr mI mL mZ zd jf q) (sc 1) = b := (by rw [hB, show r = sc 1 by omega]); have e : nn_ff (mo_tq sc mI mL mZ (nI zd) wh (some jf)) (sc 1) = some q := nn_ff_of (by omega) hJ (by simp [mo_tq, hb9, c_1, c_1n, c_2, c_2n, c_5, hczd, hset, c_7, c_9, c_10, c_10n, c_11]; done); constructor <;> (rw [mo_settle, f1, e, hczd]; rfl)), by show va_P _ _ _ t.heap; rw [ht]; exact hP⟩, hS.F ht⟩) hS.2.2 d_Model_settle_231
                  · have c_10 : ¬ (sc 1) ≤ r := fun h9 => c_10 ((nI_leI (a := sc 1) (b := r) (by omega) (by omega)).mpr h9)
                    have c_10n : r < (sc 1) := by omega
                    refine lv_iload hx hb d_Model_settle_151 (lv_at hl 1 rfl) ?_
                    refine lv_iload hx hb d_Model_settle_153 (lv_at hl 0 rfl) ?_
                    refine lv_iload hx hb d_Model_settle_155 (lv_at hl 2 rfl) ?_
                    refine lv_icmp_eq (tgt := 196) hx hb d_Model_settle_157 (by decide) (fun c_13 => ?_) (fun c_13 => ?_)
                    · have c_13 : r = q := (nI_eq (a := r) (b := q) (by omega) (by omega)).mp c_13
                      refine lv_iconst (v := 0) hx hb d_Model_settle_196 (by decide) ?_
                      refine lv_iadd hx hb d_Model_settle_197 ?_
                      refine sy_ti (y := nI (b + 0)) (nI_add b 0) ?_
                      refine lv_istore (lv' := [(7, .int (nI (b + 0))), (8, .int (nI r)), (6, .int (nI q)), (5, .int (nI jf)), (0, .ref ob), (1, .int (nI zd)), (2, .int dv), (3, .int kd), (4, .int wh)]) hx hb d_Model_settle_198 hl (by decide) rfl (fun ls hl => ?_)
                      refine lv_iinc (v := nI (r + 1)) (lv' := [(8, .int (nI (r + 1))), (7, .int (nI (b + 0))), (6, .int (nI q)), (5, .int (nI jf)), (0, .ref ob), (1, .int (nI zd)), (2, .int dv), (3, .int kd), (4, .int wh)]) hx hb d_Model_settle_200 hl (k := 1) rfl (nI_add r 1) (by decide) rfl (fun ls hl => ?_)
                      refine lv_goto (tgt := 142) hx hb d_Model_settle_203 (by decide) ?_
                      refine ih142 (r + 1, b + 0) ls (show sc 1 - (r + 1) < sc 1 - r by omega) ?_ (lv_sub hl [0, 1, 2, 3, 4, 5, 6, 7, 8] rfl)
                      exact ⟨by omega, by first | (rw [nn_ct, if_pos (by simp [mo_tr, c_10, c_10n, c_13]; done), ← hB]; done) | (rw [nn_ct, if_neg (by simp [mo_tr, c_10, c_10n, c_13]; done), ← hB]; try rfl)⟩
                    · have c_13 : ¬ r = q := fun h9 => c_13 ((nI_eq (a := r) (b := q) (by omega) (by omega)).mpr h9)
                      refine lv_aload_n hx hb d_Model_settle_160 rfl (lv_at hl 4 rfl) ?_
                      refine lv_iload hx hb d_Model_settle_161 (lv_at hl 0 rfl) ?_
                      refine lv_iload hx hb d_Model_settle_163 (lv_at hl 3 rfl) ?_
                      refine vp_callSi (va_Run.run (sy_runV (As := [.int (nI r), .int (nI jf)]) (rest := [.int (nI b)]) (b := ob) ⟨hx, hb, hml, hown, ht⟩ cl_Model_115 (c_Model_isSameKey l G ob ad sc mI mL mZ r jf (by omega) (by omega)) hK hP (va_recv hK.1 hP (ci := 7) (q0 := 0) rfl rfl) rfl nm_Model_isSameKey rfl rfl ⟨Nat.le_of_ble_eq_true rfl, Nat.le_of_ble_eq_true rfl⟩ hl.1 (Nat.le_of_ble_eq_true rfl) d_Model_settle_165 ⟨Nat.zero_le _, Nat.zero_le _⟩)) (fun r_14 hr_14 => ?_)
                      subst hr_14
                      refine lv_if_eq (tgt := 196) hx hb d_Model_settle_168 (by decide) (fun c_15 => ?_) (fun c_15 => ?_)
                      · have c_15 : (mo_sk mI r jf) = false := bI_f c_15
                        refine lv_iconst (v := 0) hx hb d_Model_settle_196 (by decide) ?_
                        refine lv_iadd hx hb d_Model_settle_197 ?_
                        refine sy_ti (y := nI (b + 0)) (nI_add b 0) ?_
                        refine lv_istore (lv' := [(7, .int (nI (b + 0))), (8, .int (nI r)), (6, .int (nI q)), (5, .int (nI jf)), (0, .ref ob), (1, .int (nI zd)), (2, .int dv), (3, .int kd), (4, .int wh)]) hx hb d_Model_settle_198 hl (by decide) rfl (fun ls hl => ?_)
                        refine lv_iinc (v := nI (r + 1)) (lv' := [(8, .int (nI (r + 1))), (7, .int (nI (b + 0))), (6, .int (nI q)), (5, .int (nI jf)), (0, .ref ob), (1, .int (nI zd)), (2, .int dv), (3, .int kd), (4, .int wh)]) hx hb d_Model_settle_200 hl (k := 1) rfl (nI_add r 1) (by decide) rfl (fun ls hl => ?_)
                        refine lv_goto (tgt := 142) hx hb d_Model_settle_203 (by decide) ?_
                        refine ih142 (r + 1, b + 0) ls (show sc 1 - (r + 1) < sc 1 - r by omega) ?_ (lv_sub hl [0, 1, 2, 3, 4, 5, 6, 7, 8] rfl)
                        exact ⟨by omega, by first | (rw [nn_ct, if_pos (by simp [mo_tr, c_10, c_10n, c_13, c_15]; done), ← hB]; done) | (rw [nn_ct, if_neg (by simp [mo_tr, c_10, c_10n, c_13, c_15]; done), ← hB]; try rfl)⟩
                      · have c_15 : (mo_sk mI r jf) = true := bI_t c_15
                        refine lv_aload_n hx hb d_Model_settle_171 rfl (lv_at hl 4 rfl) ?_
                        refine lv_iload_n hx hb d_Model_settle_172 rfl (lv_at hl 5 rfl) ?_
                        refine lv_iload hx hb d_Model_settle_173 (lv_at hl 0 rfl) ?_
                        refine vp_callSi (va_Run.run (sy_runV (As := [.int (nI zd), .int (nI r)]) (rest := [.int (nI b)]) (b := ob) ⟨hx, hb, hml, hown, ht⟩ cl_Model_109 (c_Model_isHere l G ob ad sc mI mL mZ zd r (by omega) (by omega)) hK hP (va_recv hK.1 hP (ci := 7) (q0 := 0) rfl rfl) rfl nm_Model_isHere rfl rfl ⟨Nat.le_of_ble_eq_true rfl, Nat.le_of_ble_eq_true rfl⟩ hl.1 (Nat.le_of_ble_eq_true rfl) d_Model_settle_175 ⟨Nat.zero_le _, Nat.zero_le _⟩)) (fun r_16 hr_16 => ?_)
                        subst hr_16
                        refine lv_if_eq (tgt := 196) hx hb d_Model_settle_178 (by decide) (fun c_17 => ?_) (fun c_17 => ?_)
                        · have c_17 : (mo_he mI mL mZ zd r) = false := bI_f c_17
                          refine lv_iconst (v := 0) hx hb d_Model_settle_196 (by decide) ?_
                          refine lv_iadd hx hb d_Model_settle_197 ?_
                          refine sy_ti (y := nI (b + 0)) (nI_add b 0) ?_
                          refine lv_istore (lv' := [(7, .int (nI (b + 0))), (8, .int (nI r)), (6, .int (nI q)), (5, .int (nI jf)), (0, .ref ob), (1, .int (nI zd)), (2, .int dv), (3, .int kd), (4, .int wh)]) hx hb d_Model_settle_198 hl (by decide) rfl (fun ls hl => ?_)
                          refine lv_iinc (v := nI (r + 1)) (lv' := [(8, .int (nI (r + 1))), (7, .int (nI (b + 0))), (6, .int (nI q)), (5, .int (nI jf)), (0, .ref ob), (1, .int (nI zd)), (2, .int dv), (3, .int kd), (4, .int wh)]) hx hb d_Model_settle_200 hl (k := 1) rfl (nI_add r 1) (by decide) rfl (fun ls hl => ?_)
                          refine lv_goto (tgt := 142) hx hb d_Model_settle_203 (by decide) ?_
                          refine ih142 (r + 1, b + 0) ls (show sc 1 - (r + 1) < sc 1 - r by omega) ?_ (lv_sub hl [0, 1, 2, 3, 4, 5, 6, 7, 8] rfl)
                          exact ⟨by omega, by first | (rw [nn_ct, if_pos (by simp [mo_tr, c_10, c_10n, c_13, c_15, c_17]; done), ← hB]; done) | (rw [nn_ct, if_neg (by simp [mo_tr, c_10, c_10n, c_13, c_15, c_17]; done), ← hB]; try rfl)⟩
                        · have c_17 : (mo_he mI mL mZ zd r) = true := bI_t c_17
                          refine lv_aload_n hx hb d_Model_settle_181 rfl (lv_at hl 4 rfl) ?_
                          refine lv_iload hx hb d_Model_settle_182 (lv_at hl 0 rfl) ?_
                          refine lv_iload hx hb d_Model_settle_184 (lv_at hl 2 rfl) ?_
                          refine vp_callSi (va_Run.run (sy_runV (As := [.int (nI r), .int (nI q)]) (rest := [.int (nI b)]) (b := ob) ⟨hx, hb, hml, hown, ht⟩ cl_Model_118 (c_Model_isBefore l G ob ad sc mI mL mZ r q (by omega) (by omega)) hK hP (va_recv hK.1 hP (ci := 7) (q0 := 0) rfl rfl) rfl nm_Model_isBefore rfl rfl ⟨Nat.le_of_ble_eq_true rfl, Nat.le_of_ble_eq_true rfl⟩ hl.1 (Nat.le_of_ble_eq_true rfl) d_Model_settle_186 ⟨Nat.zero_le _, Nat.zero_le _⟩)) (fun r_18 hr_18 => ?_)
                          subst hr_18
                          refine lv_if_eq (tgt := 196) hx hb d_Model_settle_189 (by decide) (fun c_19 => ?_) (fun c_19 => ?_)
                          · have c_19 : (mo_bf mI mL r q) = false := bI_f c_19
                            refine lv_iconst (v := 0) hx hb d_Model_settle_196 (by decide) ?_
                            refine lv_iadd hx hb d_Model_settle_197 ?_
                            refine sy_ti (y := nI (b + 0)) (nI_add b 0) ?_
                            refine lv_istore (lv' := [(7, .int (nI (b + 0))), (8, .int (nI r)), (6, .int (nI q)), (5, .int (nI jf)), (0, .ref ob), (1, .int (nI zd)), (2, .int dv), (3, .int kd), (4, .int wh)]) hx hb d_Model_settle_198 hl (by decide) rfl (fun ls hl => ?_)
                            refine lv_iinc (v := nI (r + 1)) (lv' := [(8, .int (nI (r + 1))), (7, .int (nI (b + 0))), (6, .int (nI q)), (5, .int (nI jf)), (0, .ref ob), (1, .int (nI zd)), (2, .int dv), (3, .int kd), (4, .int wh)]) hx hb d_Model_settle_200 hl (k := 1) rfl (nI_add r 1) (by decide) rfl (fun ls hl => ?_)
                            refine lv_goto (tgt := 142) hx hb d_Model_settle_203 (by decide) ?_
                            refine ih142 (r + 1, b + 0) ls (show sc 1 - (r + 1) < sc 1 - r by omega) ?_ (lv_sub hl [0, 1, 2, 3, 4, 5, 6, 7, 8] rfl)
                            exact ⟨by omega, by first | (rw [nn_ct, if_pos (by simp [mo_tr, c_10, c_10n, c_13, c_15, c_17, c_19]; done), ← hB]; done) | (rw [nn_ct, if_neg (by simp [mo_tr, c_10, c_10n, c_13, c_15, c_17, c_19]; done), ← hB]; try rfl)⟩
                          · have c_19 : (mo_bf mI mL r q) = true := bI_t c_19
                            refine lv_iconst (v := 1) hx hb d_Model_settle_192 (by decide) ?_
                            refine lv_goto (tgt := 197) hx hb d_Model_settle_193 (by decide) ?_
                            refine lv_iadd hx hb d_Model_settle_197 ?_
                            refine sy_ti (y := nI (b + 1)) (nI_add b 1) ?_
                            refine lv_istore (lv' := [(7, .int (nI (b + 1))), (8, .int (nI r)), (6, .int (nI q)), (5, .int (nI jf)), (0, .ref ob), (1, .int (nI zd)), (2, .int dv), (3, .int kd), (4, .int wh)]) hx hb d_Model_settle_198 hl (by decide) rfl (fun ls hl => ?_)
                            refine lv_iinc (v := nI (r + 1)) (lv' := [(8, .int (nI (r + 1))), (7, .int (nI (b + 1))), (6, .int (nI q)), (5, .int (nI jf)), (0, .ref ob), (1, .int (nI zd)), (2, .int dv), (3, .int kd), (4, .int wh)]) hx hb d_Model_settle_200 hl (k := 1) rfl (nI_add r 1) (by decide) rfl (fun ls hl => ?_)
                            refine lv_goto (tgt := 142) hx hb d_Model_settle_203 (by decide) ?_
                            refine ih142 (r + 1, b + 1) ls (show sc 1 - (r + 1) < sc 1 - r by omega) ?_ (lv_sub hl [0, 1, 2, 3, 4, 5, 6, 7, 8] rfl)
                            exact ⟨by omega, by first | (rw [nn_ct, if_pos (by simp [mo_tr, c_10, c_10n, c_13, c_15, c_17, c_19]; done), ← hB]; done) | (rw [nn_ct, if_neg (by simp [mo_tr, c_10, c_10n, c_13, c_15, c_17, c_19]; done), ← hB]; try rfl)⟩
                · exact ⟨Nat.zero_le _, rfl⟩
      · exact ⟨Nat.zero_le _, rfl⟩
    · have c_1 : ¬ (sc 1) ≤ k := fun h9 => c_1 ((nI_leI (a := sc 1) (b := k) (by omega) (by omega)).mpr h9)
      have c_1n : k < (sc 1) := by omega
      refine lv_aload_n hx hb d_Model_settle_15 rfl (lv_at hl 2 rfl) ?_
      refine lv_iload_n hx hb d_Model_settle_16 rfl (lv_at hl 3 rfl) ?_
      refine vp_callSi (va_Run.run (sy_runV (As := [.int d]) (rest := []) (b := ob) ⟨hx, hb, hml, hown, ht⟩ cl_Model_96 (c_Model_isSet l G ob ad sc mI mL mZ d (by omega)) hK hP (va_recv hK.1 hP (ci := 7) (q0 := 0) rfl rfl) rfl nm_Model_isSet rfl rfl ⟨Nat.le_of_ble_eq_true rfl, Nat.le_of_ble_eq_true rfl⟩ hl.1 (Nat.le_of_ble_eq_true rfl) d_Model_settle_17 ⟨Nat.zero_le _, Nat.zero_le _⟩)) (fun r_20 hr_20 => ?_)
      subst hr_20
      refine lv_if_eq (tgt := 59) hx hb d_Model_settle_20 (by decide) (fun c_21 => ?_) (fun c_21 => ?_)
      · have c_21 : (mo_ok (sc 3) d) = false := bI_f c_21
        refine lv_iconst (v := 0) hx hb d_Model_settle_59 (by decide) ?_
        refine lv_istore (lv' := [(7, .int 0), (6, .int (nI k)), (5, .int (oI o)), (0, .ref ob), (1, .int d), (2, .int dv), (3, .int kd), (4, .int wh)]) hx hb d_Model_settle_60 hl (by decide) rfl (fun ls hl => ?_)
        refine lv_iload hx hb d_Model_settle_62 (lv_at hl 0 rfl) ?_
        refine lv_if_eq (tgt := 88) hx hb d_Model_settle_64 (by decide) (fun c_22 => ?_) (fun c_22 => absurd (by decide) c_22)
        refine lv_iload hx hb d_Model_settle_88 (lv_at hl 2 rfl) ?_
        refine lv_istore (lv' := [(5, .int (oI o)), (7, .int 0), (6, .int (nI k)), (0, .ref ob), (1, .int d), (2, .int dv), (3, .int kd), (4, .int wh)]) hx hb d_Model_settle_90 hl (by decide) rfl (fun ls hl => ?_)
        refine lv_iinc (v := nI (k + 1)) (lv' := [(6, .int (nI (k + 1))), (5, .int (oI o)), (7, .int 0), (0, .ref ob), (1, .int d), (2, .int dv), (3, .int kd), (4, .int wh)]) hx hb d_Model_settle_92 hl (k := 2) rfl (nI_add k 1) (by decide) rfl (fun ls hl => ?_)
        refine lv_goto (tgt := 6) hx hb d_Model_settle_95 (by decide) ?_
        refine ih6 (k + 1, o) ls (show sc 1 - (k + 1) < sc 1 - k by omega) ?_ (lv_sub hl [0, 1, 3, 4, 5, 6, 7] rfl)
        exact ⟨by omega, by first | (rw [nn_fm, if_pos (by simp [mo_tp, c_1, c_1n, c_21, c_22]; done), ← hI]; simp [nn_up, mo_tp, c_1, c_1n, c_21, c_22]; done) | (rw [nn_fm, if_neg (by simp [mo_tp, c_1, c_1n, c_21, c_22]; done), ← hI])⟩
      · have c_21 : (mo_ok (sc 3) d) = true := bI_t c_21
        obtain ⟨zd, hzd, ezd⟩ := mo_ix (by omega) c_21
        subst ezd
        have hczd : (nI zd).toNatClampNeg = zd := nI_clamp (by omega)
        refine lv_aload_n hx hb d_Model_settle_23 rfl (lv_at hl 2 rfl) ?_
        refine va_get (D := G.1) (ci := 7) (v := .ref (ad 2)) (C := R_Model) (T := F_Model) (N := 23) hx hb ht i_Model hown hK.1 hP 0 rfl rfl 4 (by decide) (ht _ m_509) (fun _ h9 => h9) rfl d_Model_settle_24 ?_
        refine lv_iload hx hb d_Model_settle_27 (lv_at hl 0 rfl) ?_
        refine sy_iald hx hb hK.1 hP 3 0 rfl rfl (k := k) (by omega) (by decide) d_Model_settle_29 ?_
        refine lv_iload_n hx hb d_Model_settle_30 rfl (lv_at hl 4 rfl) ?_
        refine lv_icmp_ne (tgt := 59) hx hb d_Model_settle_31 (by decide) (fun c_23 => ?_) (fun c_23 => ?_)
        · refine lv_iconst (v := 0) hx hb d_Model_settle_59 (by decide) ?_
          refine lv_istore (lv' := [(7, .int 0), (6, .int (nI k)), (5, .int (oI o)), (0, .ref ob), (1, .int (nI zd)), (2, .int dv), (3, .int kd), (4, .int wh)]) hx hb d_Model_settle_60 hl (by decide) rfl (fun ls hl => ?_)
          refine lv_iload hx hb d_Model_settle_62 (lv_at hl 0 rfl) ?_
          refine lv_if_eq (tgt := 88) hx hb d_Model_settle_64 (by decide) (fun c_24 => ?_) (fun c_24 => absurd (by decide) c_24)
          refine lv_iload hx hb d_Model_settle_88 (lv_at hl 2 rfl) ?_
          refine lv_istore (lv' := [(5, .int (oI o)), (7, .int 0), (6, .int (nI k)), (0, .ref ob), (1, .int (nI zd)), (2, .int dv), (3, .int kd), (4, .int wh)]) hx hb d_Model_settle_90 hl (by decide) rfl (fun ls hl => ?_)
          refine lv_iinc (v := nI (k + 1)) (lv' := [(6, .int (nI (k + 1))), (5, .int (oI o)), (7, .int 0), (0, .ref ob), (1, .int (nI zd)), (2, .int dv), (3, .int kd), (4, .int wh)]) hx hb d_Model_settle_92 hl (k := 2) rfl (nI_add k 1) (by decide) rfl (fun ls hl => ?_)
          refine lv_goto (tgt := 6) hx hb d_Model_settle_95 (by decide) ?_
          refine ih6 (k + 1, o) ls (show sc 1 - (k + 1) < sc 1 - k by omega) ?_ (lv_sub hl [0, 1, 3, 4, 5, 6, 7] rfl)
          exact ⟨by omega, by first | (rw [nn_fm, if_pos (by simp [mo_tp, c_1, c_1n, c_21, hczd, c_23, c_24]; done), ← hI]; simp [nn_up, mo_tp, c_1, c_1n, c_21, hczd, c_23, c_24]; done) | (rw [nn_fm, if_neg (by simp [mo_tp, c_1, c_1n, c_21, hczd, c_23, c_24]; done), ← hI])⟩
        · refine lv_aload_n hx hb d_Model_settle_34 rfl (lv_at hl 2 rfl) ?_
          refine va_get (D := G.1) (ci := 7) (v := .ref (ad 5)) (C := R_Model) (T := F_Model) (N := 23) hx hb ht i_Model hown hK.1 hP 0 rfl rfl 7 (by decide) (ht _ m_512) (fun _ h9 => h9) rfl d_Model_settle_35 ?_
          refine lv_iload hx hb d_Model_settle_38 (lv_at hl 0 rfl) ?_
          refine sy_iald hx hb hK.1 hP 6 0 rfl rfl (k := k) (by omega) (by decide) d_Model_settle_40 ?_
          refine lv_iload_n hx hb d_Model_settle_41 rfl (lv_at hl 5 rfl) ?_
          refine lv_icmp_ne (tgt := 59) hx hb d_Model_settle_42 (by decide) (fun c_25 => ?_) (fun c_25 => ?_)
          · refine lv_iconst (v := 0) hx hb d_Model_settle_59 (by decide) ?_
            refine lv_istore (lv' := [(7, .int 0), (6, .int (nI k)), (5, .int (oI o)), (0, .ref ob), (1, .int (nI zd)), (2, .int dv), (3, .int kd), (4, .int wh)]) hx hb d_Model_settle_60 hl (by decide) rfl (fun ls hl => ?_)
            refine lv_iload hx hb d_Model_settle_62 (lv_at hl 0 rfl) ?_
            refine lv_if_eq (tgt := 88) hx hb d_Model_settle_64 (by decide) (fun c_26 => ?_) (fun c_26 => absurd (by decide) c_26)
            refine lv_iload hx hb d_Model_settle_88 (lv_at hl 2 rfl) ?_
            refine lv_istore (lv' := [(5, .int (oI o)), (7, .int 0), (6, .int (nI k)), (0, .ref ob), (1, .int (nI zd)), (2, .int dv), (3, .int kd), (4, .int wh)]) hx hb d_Model_settle_90 hl (by decide) rfl (fun ls hl => ?_)
            refine lv_iinc (v := nI (k + 1)) (lv' := [(6, .int (nI (k + 1))), (5, .int (oI o)), (7, .int 0), (0, .ref ob), (1, .int (nI zd)), (2, .int dv), (3, .int kd), (4, .int wh)]) hx hb d_Model_settle_92 hl (k := 2) rfl (nI_add k 1) (by decide) rfl (fun ls hl => ?_)
            refine lv_goto (tgt := 6) hx hb d_Model_settle_95 (by decide) ?_
            refine ih6 (k + 1, o) ls (show sc 1 - (k + 1) < sc 1 - k by omega) ?_ (lv_sub hl [0, 1, 3, 4, 5, 6, 7] rfl)
            exact ⟨by omega, by first | (rw [nn_fm, if_pos (by simp [mo_tp, c_1, c_1n, c_21, hczd, c_23, c_25, c_26]; done), ← hI]; simp [nn_up, mo_tp, c_1, c_1n, c_21, hczd, c_23, c_25, c_26]; done) | (rw [nn_fm, if_neg (by simp [mo_tp, c_1, c_1n, c_21, hczd, c_23, c_25, c_26]; done), ← hI])⟩
          · refine lv_aload_n hx hb d_Model_settle_45 rfl (lv_at hl 2 rfl) ?_
            refine lv_iload_n hx hb d_Model_settle_46 rfl (lv_at hl 3 rfl) ?_
            refine lv_iload hx hb d_Model_settle_47 (lv_at hl 0 rfl) ?_
            refine vp_callSi (va_Run.run (sy_runV (As := [.int (nI zd), .int (nI k)]) (rest := []) (b := ob) ⟨hx, hb, hml, hown, ht⟩ cl_Model_133 (c_Model_isConflict l G ob ad sc mI mL mZ zd k (by omega) (by omega) (by omega)) hK hP (va_recv hK.1 hP (ci := 7) (q0 := 0) rfl rfl) rfl nm_Model_isConflict rfl rfl ⟨Nat.le_of_ble_eq_true rfl, Nat.le_of_ble_eq_true rfl⟩ hl.1 (Nat.le_of_ble_eq_true rfl) d_Model_settle_49 ⟨Nat.zero_le _, Nat.zero_le _⟩)) (fun r_27 hr_27 => ?_)
            subst hr_27
            refine lv_if_eq (tgt := 59) hx hb d_Model_settle_52 (by decide) (fun c_28 => ?_) (fun c_28 => ?_)
            · have c_28 : (mo_cf mI mL mZ (sc 1) zd k) = false := bI_f c_28
              refine lv_iconst (v := 0) hx hb d_Model_settle_59 (by decide) ?_
              refine lv_istore (lv' := [(7, .int 0), (6, .int (nI k)), (5, .int (oI o)), (0, .ref ob), (1, .int (nI zd)), (2, .int dv), (3, .int kd), (4, .int wh)]) hx hb d_Model_settle_60 hl (by decide) rfl (fun ls hl => ?_)
              refine lv_iload hx hb d_Model_settle_62 (lv_at hl 0 rfl) ?_
              refine lv_if_eq (tgt := 88) hx hb d_Model_settle_64 (by decide) (fun c_29 => ?_) (fun c_29 => absurd (by decide) c_29)
              refine lv_iload hx hb d_Model_settle_88 (lv_at hl 2 rfl) ?_
              refine lv_istore (lv' := [(5, .int (oI o)), (7, .int 0), (6, .int (nI k)), (0, .ref ob), (1, .int (nI zd)), (2, .int dv), (3, .int kd), (4, .int wh)]) hx hb d_Model_settle_90 hl (by decide) rfl (fun ls hl => ?_)
              refine lv_iinc (v := nI (k + 1)) (lv' := [(6, .int (nI (k + 1))), (5, .int (oI o)), (7, .int 0), (0, .ref ob), (1, .int (nI zd)), (2, .int dv), (3, .int kd), (4, .int wh)]) hx hb d_Model_settle_92 hl (k := 2) rfl (nI_add k 1) (by decide) rfl (fun ls hl => ?_)
              refine lv_goto (tgt := 6) hx hb d_Model_settle_95 (by decide) ?_
              refine ih6 (k + 1, o) ls (show sc 1 - (k + 1) < sc 1 - k by omega) ?_ (lv_sub hl [0, 1, 3, 4, 5, 6, 7] rfl)
              exact ⟨by omega, by first | (rw [nn_fm, if_pos (by simp [mo_tp, c_1, c_1n, c_21, hczd, c_23, c_25, c_28, c_29]; done), ← hI]; simp [nn_up, mo_tp, c_1, c_1n, c_21, hczd, c_23, c_25, c_28, c_29]; done) | (rw [nn_fm, if_neg (by simp [mo_tp, c_1, c_1n, c_21, hczd, c_23, c_25, c_28, c_29]; done), ← hI])⟩
            · have c_28 : (mo_cf mI mL mZ (sc 1) zd k) = true := bI_t c_28
              refine lv_iconst (v := 1) hx hb d_Model_settle_55 (by decide) ?_
              refine lv_goto (tgt := 60) hx hb d_Model_settle_56 (by decide) ?_
              refine lv_istore (lv' := [(7, .int 1), (6, .int (nI k)), (5, .int (oI o)), (0, .ref ob), (1, .int (nI zd)), (2, .int dv), (3, .int kd), (4, .int wh)]) hx hb d_Model_settle_60 hl (by decide) rfl (fun ls hl => ?_)
              refine lv_iload hx hb d_Model_settle_62 (lv_at hl 0 rfl) ?_
              refine lv_if_eq (tgt := 88) hx hb d_Model_settle_64 (by decide) (fun c_30 => absurd c_30 (by decide)) (fun c_30 => ?_)
              refine lv_iload hx hb d_Model_settle_67 (lv_at hl 2 rfl) ?_
              rcases o with _ | j_31
              · have hl : lv_has ls 9 [(7, .int 1), (6, .int (nI k)), (5, .int (-1)), (0, .ref ob), (1, .int (nI zd)), (2, .int dv), (3, .int kd), (4, .int wh)] := hl
                refine lv_if_lt (tgt := 83) hx hb d_Model_settle_69 (by decide) (fun c_32 => ?_) (fun c_32 => absurd (by decide) c_32)
                refine lv_iload hx hb d_Model_settle_83 (lv_at hl 1 rfl) ?_
                refine lv_goto (tgt := 90) hx hb d_Model_settle_85 (by decide) ?_
                refine lv_istore (lv' := [(5, .int (nI k)), (7, .int 1), (6, .int (nI k)), (0, .ref ob), (1, .int (nI zd)), (2, .int dv), (3, .int kd), (4, .int wh)]) hx hb d_Model_settle_90 hl (by decide) rfl (fun ls hl => ?_)
                refine lv_iinc (v := nI (k + 1)) (lv' := [(6, .int (nI (k + 1))), (5, .int (nI k)), (7, .int 1), (0, .ref ob), (1, .int (nI zd)), (2, .int dv), (3, .int kd), (4, .int wh)]) hx hb d_Model_settle_92 hl (k := 2) rfl (nI_add k 1) (by decide) rfl (fun ls hl => ?_)
                refine lv_goto (tgt := 6) hx hb d_Model_settle_95 (by decide) ?_
                refine ih6 (k + 1, (some k)) ls (show sc 1 - (k + 1) < sc 1 - k by omega) ?_ (lv_sub hl [0, 1, 3, 4, 5, 6, 7] rfl)
                exact ⟨by omega, by first | (rw [nn_fm, if_pos (by simp [mo_tp, c_1, c_1n, c_21, hczd, c_23, c_25, c_28, c_30, c_32]; done), ← hI]; simp [nn_up, mo_tp, c_1, c_1n, c_21, hczd, c_23, c_25, c_28, c_30, c_32]; done) | (rw [nn_fm, if_neg (by simp [mo_tp, c_1, c_1n, c_21, hczd, c_23, c_25, c_28, c_30, c_32]; done), ← hI])⟩
              · have hl : lv_has ls 9 [(7, .int 1), (6, .int (nI k)), (5, .int (nI j_31)), (0, .ref ob), (1, .int (nI zd)), (2, .int dv), (3, .int kd), (4, .int wh)] := hl
                have hj_31 : j_31 < k := nn_fm_lt hI.symm
                refine lv_if_lt (tgt := 83) hx hb d_Model_settle_69 (by decide) (fun c_33 => absurd c_33 (nI_pos (by omega))) (fun c_33 => ?_)
                refine lv_aload_n hx hb d_Model_settle_72 rfl (lv_at hl 3 rfl) ?_
                refine lv_iload hx hb d_Model_settle_73 (lv_at hl 1 rfl) ?_
                refine lv_iload hx hb d_Model_settle_75 (lv_at hl 2 rfl) ?_
                refine vp_callSi (va_Run.run (sy_runV (As := [.int (nI k), .int (nI j_31)]) (rest := []) (b := ob) ⟨hx, hb, hml, hown, ht⟩ cl_Model_136 (c_Model_isKeyBefore l G ob ad sc mI mL mZ k j_31 (by omega) (by omega)) hK hP (va_recv hK.1 hP (ci := 7) (q0 := 0) rfl rfl) rfl nm_Model_isKeyBefore rfl rfl ⟨Nat.le_of_ble_eq_true rfl, Nat.le_of_ble_eq_true rfl⟩ hl.1 (Nat.le_of_ble_eq_true rfl) d_Model_settle_77 ⟨Nat.zero_le _, Nat.zero_le _⟩)) (fun r_34 hr_34 => ?_)
                subst hr_34
                refine lv_if_eq (tgt := 88) hx hb d_Model_settle_80 (by decide) (fun c_35 => ?_) (fun c_35 => ?_)
                · have c_35 : (mo_kb mI k j_31) = false := bI_f c_35
                  refine lv_iload hx hb d_Model_settle_88 (lv_at hl 2 rfl) ?_
                  refine lv_istore (lv' := [(5, .int (nI j_31)), (7, .int 1), (6, .int (nI k)), (0, .ref ob), (1, .int (nI zd)), (2, .int dv), (3, .int kd), (4, .int wh)]) hx hb d_Model_settle_90 hl (by decide) rfl (fun ls hl => ?_)
                  refine lv_iinc (v := nI (k + 1)) (lv' := [(6, .int (nI (k + 1))), (5, .int (nI j_31)), (7, .int 1), (0, .ref ob), (1, .int (nI zd)), (2, .int dv), (3, .int kd), (4, .int wh)]) hx hb d_Model_settle_92 hl (k := 2) rfl (nI_add k 1) (by decide) rfl (fun ls hl => ?_)
                  refine lv_goto (tgt := 6) hx hb d_Model_settle_95 (by decide) ?_
                  refine ih6 (k + 1, (some j_31)) ls (show sc 1 - (k + 1) < sc 1 - k by omega) ?_ (lv_sub hl [0, 1, 3, 4, 5, 6, 7] rfl)
                  exact ⟨by omega, by first | (rw [nn_fm, if_pos (by simp [mo_tp, c_1, c_1n, c_21, hczd, c_23, c_25, c_28, c_30, c_33, c_35]; done), ← hI]; simp [nn_up, mo_tp, c_1, c_1n, c_21, hczd, c_23, c_25, c_28, c_30, c_33, c_35]; done) | (rw [nn_fm, if_neg (by simp [mo_tp, c_1, c_1n, c_21, hczd, c_23, c_25, c_28, c_30, c_33, c_35]; done), ← hI])⟩
                · have c_35 : (mo_kb mI k j_31) = true := bI_t c_35
                  refine lv_iload hx hb d_Model_settle_83 (lv_at hl 1 rfl) ?_
                  refine lv_goto (tgt := 90) hx hb d_Model_settle_85 (by decide) ?_
                  refine lv_istore (lv' := [(5, .int (nI k)), (7, .int 1), (6, .int (nI k)), (0, .ref ob), (1, .int (nI zd)), (2, .int dv), (3, .int kd), (4, .int wh)]) hx hb d_Model_settle_90 hl (by decide) rfl (fun ls hl => ?_)
                  refine lv_iinc (v := nI (k + 1)) (lv' := [(6, .int (nI (k + 1))), (5, .int (nI k)), (7, .int 1), (0, .ref ob), (1, .int (nI zd)), (2, .int dv), (3, .int kd), (4, .int wh)]) hx hb d_Model_settle_92 hl (k := 2) rfl (nI_add k 1) (by decide) rfl (fun ls hl => ?_)
                  refine lv_goto (tgt := 6) hx hb d_Model_settle_95 (by decide) ?_
                  refine ih6 (k + 1, (some k)) ls (show sc 1 - (k + 1) < sc 1 - k by omega) ?_ (lv_sub hl [0, 1, 3, 4, 5, 6, 7] rfl)
                  exact ⟨by omega, by first | (rw [nn_fm, if_pos (by simp [mo_tp, c_1, c_1n, c_21, hczd, c_23, c_25, c_28, c_30, c_33, c_35]; done), ← hI]; simp [nn_up, mo_tp, c_1, c_1n, c_21, hczd, c_23, c_25, c_28, c_30, c_33, c_35]; done) | (rw [nn_fm, if_neg (by simp [mo_tp, c_1, c_1n, c_21, hczd, c_23, c_25, c_28, c_30, c_33, c_35]; done), ← hI])⟩
  · exact ⟨Nat.zero_le _, rfl⟩
