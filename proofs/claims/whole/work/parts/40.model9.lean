set_option maxHeartbeats 4000000 in
set_option maxRecDepth 100000 in
theorem c_Model_gap (l : Launch) (G : sy_G) (ob : Nat) (ad : Nat → Nat) (sc : Nat → Nat) (mI : Nat → Nat → Int32) (mL : Nat → Nat → Int64) (mZ : Nat → Nat → Bool) (d : Int32) (dv : Int32) (pk : Int32) (hn : sc 1 ≤ 60) (hs : sc 3 ≤ 6) : Met l y_Model_gap (sy_w y_Model_gap b_Model_gap 9 (some .int)) { frames := 1, cells := 0, slots := 0, locals := 27 } (va_Pc [.ref ob, .int d, .int dv, .int pk] (sy_KP G (va_P G.1 classes (mw G.2 ob ad sc mI mL mZ)))) (vp_Si (fun r => r = mo_gap sc mI mZ d dv pk)) 0 0 (fun _ => False) := by
  refine Met.ofW (cc := b_Model_gap) (maxL := 9) (ret := (some .int)) (by decide) rfl ?_
  intro p e s m args below meth c s₁ B hml hv
  obtain ⟨rfl, hP, hK⟩ := hv
  have hx := B.exec
  have hb := B.bytes
  have hr := B.returns
  have hts := atoms_spec (ws := sy_w y_Model_gap b_Model_gap 9 (some .int)) B.pre
  have ht : ∀ wd ∈ sy_T, wd.before ([.ref ob, .int d, .int dv, .int pk] : List Value).toArray s = true := fun wd h => hts wd (List.mem_cons_of_mem _ h)
  have hown : s.vm.findClass R_Model = some m.cls := findClass_of_methodNamed B.named
  have hlocks := B.notSynchronized
  have hl := lv_entry ([.ref ob, .int d, .int dv, .int pk]) (n := 9) (Nat.le_of_ble_eq_true rfl)
  rw [lg_entry_eq]
  generalize (lg_sl ([.ref ob, .int d, .int dv, .int pk]) ++ List.replicate (9 - (lg_sl ([.ref ob, .int d, .int dv, .int pk])).length) Slot.unset).toArray = ls at hl ⊢
  have hl : lv_has ls 9 [(0, .ref ob), (1, .int d), (2, .int dv), (3, .int pk)] := hl
  refine lv_aload_n hx hb d_Model_gap_0 rfl (lv_at hl 0 rfl) ?_
  refine lv_iload_n hx hb d_Model_gap_1 rfl (lv_at hl 1 rfl) ?_
  refine vp_callSi (va_Run.run (sy_runV (As := [.int d]) (rest := []) (b := ob) ⟨hx, hb, hml, hown, ht⟩ cl_Model_96 (c_Model_isSet l G ob ad sc mI mL mZ d (by omega)) hK hP (va_recv hK.1 hP (ci := 7) (q0 := 0) rfl rfl) rfl nm_Model_isSet rfl rfl ⟨Nat.le_of_ble_eq_true rfl, Nat.le_of_ble_eq_true rfl⟩ hl.1 (Nat.le_of_ble_eq_true rfl) d_Model_gap_2 ⟨Nat.zero_le _, Nat.zero_le _⟩)) (fun r_1 hr_1 => ?_)
  subst hr_1
  refine lv_if_eq (tgt := 12) hx hb d_Model_gap_5 (by decide) (fun c_2 => ?_) (fun c_2 => ?_)
  · have c_2 : (mo_ok (sc 3) d) = false := bI_f c_2
    refine lv_iconst (v := (-1)) hx hb d_Model_gap_12 (by decide) ?_
    exact W.iret (v := (-1 : Int32)) hx hb hr (fun t ht hW => ⟨(-1 : Int32), rfl, by first | (simp [mo_gap, c_2]; done) | (have e : sc 1 = k := (by omega); rw [hI, ← e] at hJ; rw [mo_gap, if_pos (by simp [c_2]; done), hczd, ← hJ, show F = (F - 1) + 1 by omega, mo_gp]; simp [mo_bw, c_2]; done), ht⟩) (fun q h => by cases h) d_Model_gap_13
  · have c_2 : (mo_ok (sc 3) d) = true := bI_t c_2
    obtain ⟨zd, hzd, ezd⟩ := mo_ix (by omega) c_2
    subst ezd
    have hczd : (nI zd).toNatClampNeg = zd := nI_clamp (by omega)
    refine lv_iload_n hx hb d_Model_gap_8 rfl (lv_at hl 3 rfl) ?_
    refine lv_if_ge (tgt := 14) hx hb d_Model_gap_9 (by decide) (fun c_3 => ?_) (fun c_3 => ?_)
    · have c_3n := sy_c32 c_3
      refine lv_iconst (v := (-1)) hx hb d_Model_gap_14 (by decide) ?_
      refine lv_istore (lv' := [(4, .int (-1)), (0, .ref ob), (1, .int (nI zd)), (2, .int dv), (3, .int pk)]) hx hb d_Model_gap_15 hl (by decide) rfl (fun ls hl => ?_)
      refine lv_iconst (v := 0) hx hb d_Model_gap_17 (by decide) ?_
      refine lv_istore (lv' := [(5, .int 0), (4, .int (-1)), (0, .ref ob), (1, .int (nI zd)), (2, .int dv), (3, .int pk)]) hx hb d_Model_gap_18 hl (by decide) rfl (fun ls hl => ?_)
      refine sy_loop (σ := Nat × Int32) (nL := 9) (fun x20 => match x20 with | (k, la) => sc 1 - k) (fun x20 => match x20 with | (k, la) => [(5, .int (nI k)), (4, .int la), (0, .ref ob), (1, .int (nI zd)), (2, .int dv), (3, .int pk)]) (fun x20 => match x20 with | (k, la) => k ≤ sc 1 ∧ la = mo_la mI mZ zd dv k) ?_ (0, (-1 : Int32)) ?_ (lv_sub hl [0, 1, 2, 3, 4, 5] rfl)
      · intro x20 ls hI hl ih20
        obtain ⟨k, la⟩ := x20
        have hl : lv_has ls 9 [(5, .int (nI k)), (4, .int la), (0, .ref ob), (1, .int (nI zd)), (2, .int dv), (3, .int pk)] := hl
        obtain ⟨hk, hI⟩ := hI
        refine lv_iload hx hb d_Model_gap_20 (lv_at hl 0 rfl) ?_
        refine lv_aload_n hx hb d_Model_gap_22 rfl (lv_at hl 2 rfl) ?_
        refine va_get (D := G.1) (ci := 7) (v := .int (nI (sc 1))) (C := R_Model) (T := F_Model) (N := 23) hx hb ht i_Model hown hK.1 hP 0 rfl rfl 3 (by decide) (ht _ m_508) (fun _ h9 => h9) rfl d_Model_gap_23 ?_
        refine lv_icmp_ge (tgt := 99) hx hb d_Model_gap_26 (by decide) (fun c_4 => ?_) (fun c_4 => ?_)
        · have c_4 : (sc 1) ≤ k := (nI_leI (a := sc 1) (b := k) (by omega) (by omega)).mp c_4
          have c_4n : ¬ k < (sc 1) := by omega
          refine lv_iload_n hx hb d_Model_gap_99 rfl (lv_at hl 5 rfl) ?_
          refine lv_istore (lv' := [(5, .int pk), (4, .int la), (0, .ref ob), (1, .int (nI zd)), (2, .int dv), (3, .int pk)]) hx hb d_Model_gap_100 hl (by decide) rfl (fun ls hl => ?_)
          refine lv_iconst (v := (-1)) hx hb d_Model_gap_102 (by decide) ?_
          refine lv_istore (lv' := [(6, .int (-1)), (5, .int pk), (4, .int la), (0, .ref ob), (1, .int (nI zd)), (2, .int dv), (3, .int pk)]) hx hb d_Model_gap_103 hl (by decide) rfl (fun ls hl => ?_)
          refine lv_aload_n hx hb d_Model_gap_105 rfl (lv_at hl 3 rfl) ?_
          refine lv_iload_n hx hb d_Model_gap_106 rfl (lv_at hl 4 rfl) ?_
          refine lv_iload_n hx hb d_Model_gap_107 rfl (lv_at hl 5 rfl) ?_
          refine lv_iload hx hb d_Model_gap_108 (lv_at hl 2 rfl) ?_
          refine lv_iconst (v := (-1)) hx hb d_Model_gap_110 (by decide) ?_
          refine vp_callSi (va_Run.run (sy_runV (As := [.int (nI zd), .int dv, .int la, .int (-1)]) (rest := []) (b := ob) ⟨hx, hb, hml, hown, ht⟩ cl_Model_129 (c_Model_nextNumber l G ob ad sc mI mL mZ zd dv la (-1 : Int32) (by omega) (by omega)) hK hP (va_recv hK.1 hP (ci := 7) (q0 := 0) rfl rfl) rfl nm_Model_nextNumber rfl rfl ⟨Nat.le_of_ble_eq_true rfl, Nat.le_of_ble_eq_true rfl⟩ hl.1 (Nat.le_of_ble_eq_true rfl) d_Model_gap_111 ⟨Nat.zero_le _, Nat.zero_le _⟩)) (fun r_5 hr_5 => ?_)
          subst hr_5
          refine lv_istore (lv' := [(7, .int (mo_nx mI mZ zd dv la (-1 : Int32) (sc 1))), (6, .int (-1)), (5, .int pk), (4, .int la), (0, .ref ob), (1, .int (nI zd)), (2, .int dv), (3, .int pk)]) hx hb d_Model_gap_114 hl (by decide) rfl (fun ls hl => ?_)
          refine sy_loop (σ := Nat × Int32 × Int32 × Int32) (nL := 9) (fun x116 => match x116 with | (F, lf, be, nx) => mo_gm nx) (fun x116 => match x116 with | (F, lf, be, nx) => [(5, .int lf), (6, .int be), (7, .int nx), (4, .int la), (0, .ref ob), (1, .int (nI zd)), (2, .int dv)]) (fun x116 => match x116 with | (F, lf, be, nx) => mo_gm nx < F ∧ mo_gp mI mZ (sc 1) zd dv la F lf be nx = mo_gp mI mZ (sc 1) zd dv la 2147483649 pk (-1) (mo_nx mI mZ zd dv la (-1) (sc 1))) ?_ (2147483649, pk, (-1 : Int32), mo_nx mI mZ zd dv la (-1 : Int32) (sc 1)) ?_ (lv_sub hl [2, 1, 0, 3, 4, 5, 6] rfl)
          · intro x116 ls hI hl ih116
            obtain ⟨F, lf, be, nx⟩ := x116
            have hl : lv_has ls 9 [(5, .int lf), (6, .int be), (7, .int nx), (4, .int la), (0, .ref ob), (1, .int (nI zd)), (2, .int dv)] := hl
            obtain ⟨hF, hJ⟩ := hI
            refine lv_iload hx hb d_Model_gap_116 (lv_at hl 2 rfl) ?_
            refine lv_if_lt (tgt := 180) hx hb d_Model_gap_118 (by decide) (fun c_6 => ?_) (fun c_6 => ?_)
            · have c_6n := sy_a32 c_6
              refine lv_iconst (v := (-1)) hx hb d_Model_gap_180 (by decide) ?_
              exact W.iret (v := (-1 : Int32)) hx hb hr (fun t ht hW => ⟨(-1 : Int32), rfl, by first | (simp [mo_gap, c_2, hczd, c_3, c_3n, c_4, c_4n, c_6, c_6n]; done) | (have e : sc 1 = k := (by omega); rw [hI, ← e] at hJ; rw [mo_gap, if_pos (by simp [c_2, hczd, c_3, c_3n, c_4, c_4n, c_6, c_6n]; done), hczd, ← hJ, show F = (F - 1) + 1 by omega, mo_gp]; simp [mo_bw, c_6, c_6n]; done), ht⟩) (fun q h => by cases h) d_Model_gap_181
            · have c_6n := sy_b32 c_6
              refine lv_iload hx hb d_Model_gap_121 (lv_at hl 1 rfl) ?_
              refine lv_if_ge (tgt := 130) hx hb d_Model_gap_123 (by decide) (fun c_7 => ?_) (fun c_7 => ?_)
              · have c_7n := sy_c32 c_7
                refine lv_iload hx hb d_Model_gap_130 (lv_at hl 2 rfl) ?_
                refine lv_iload hx hb d_Model_gap_132 (lv_at hl 1 rfl) ?_
                refine lv_isub hx hb d_Model_gap_134 ?_
                refine lv_iconst (v := 1) hx hb d_Model_gap_135 (by decide) ?_
                refine lv_isub hx hb d_Model_gap_136 ?_
                refine lv_istore (lv' := [(8, .int ((nx - be) - 1)), (5, .int lf), (6, .int be), (7, .int nx), (4, .int la), (0, .ref ob), (1, .int (nI zd)), (2, .int dv)]) hx hb d_Model_gap_137 hl (by decide) rfl (fun ls hl => ?_)
                refine lv_iload hx hb d_Model_gap_139 (lv_at hl 1 rfl) ?_
                refine lv_iload hx hb d_Model_gap_141 (lv_at hl 0 rfl) ?_
                refine lv_icmp_ge (tgt := 154) hx hb d_Model_gap_143 (by decide) (fun c_8 => ?_) (fun c_8 => ?_)
                · have c_8n := sy_c32 c_8
                  refine lv_iload hx hb d_Model_gap_154 (lv_at hl 1 rfl) ?_
                  refine lv_iload hx hb d_Model_gap_156 (lv_at hl 0 rfl) ?_
                  refine lv_isub hx hb d_Model_gap_158 ?_
                  refine lv_istore (lv' := [(5, .int (lf - ((nx - be) - 1))), (8, .int ((nx - be) - 1)), (6, .int be), (7, .int nx), (4, .int la), (0, .ref ob), (1, .int (nI zd)), (2, .int dv)]) hx hb d_Model_gap_159 hl (by decide) rfl (fun ls hl => ?_)
                  refine lv_iload hx hb d_Model_gap_161 (lv_at hl 3 rfl) ?_
                  refine lv_istore (lv' := [(6, .int nx), (5, .int (lf - ((nx - be) - 1))), (8, .int ((nx - be) - 1)), (7, .int nx), (4, .int la), (0, .ref ob), (1, .int (nI zd)), (2, .int dv)]) hx hb d_Model_gap_163 hl (by decide) rfl (fun ls hl => ?_)
                  refine lv_aload_n hx hb d_Model_gap_165 rfl (lv_at hl 5 rfl) ?_
                  refine lv_iload_n hx hb d_Model_gap_166 rfl (lv_at hl 6 rfl) ?_
                  refine lv_iload_n hx hb d_Model_gap_167 rfl (lv_at hl 7 rfl) ?_
                  refine lv_iload hx hb d_Model_gap_168 (lv_at hl 4 rfl) ?_
                  refine lv_iload hx hb d_Model_gap_170 (lv_at hl 0 rfl) ?_
                  refine vp_callSi (va_Run.run (sy_runV (As := [.int (nI zd), .int dv, .int la, .int nx]) (rest := []) (b := ob) ⟨hx, hb, hml, hown, ht⟩ cl_Model_129 (c_Model_nextNumber l G ob ad sc mI mL mZ zd dv la nx (by omega) (by omega)) hK hP (va_recv hK.1 hP (ci := 7) (q0 := 0) rfl rfl) rfl nm_Model_nextNumber rfl rfl ⟨Nat.le_of_ble_eq_true rfl, Nat.le_of_ble_eq_true rfl⟩ hl.1 (Nat.le_of_ble_eq_true rfl) d_Model_gap_172 ⟨Nat.zero_le _, Nat.zero_le _⟩)) (fun r_9 hr_9 => ?_)
                  subst hr_9
                  refine lv_istore (lv' := [(7, .int (mo_nx mI mZ zd dv la nx (sc 1))), (6, .int nx), (5, .int (lf - ((nx - be) - 1))), (8, .int ((nx - be) - 1)), (4, .int la), (0, .ref ob), (1, .int (nI zd)), (2, .int dv)]) hx hb d_Model_gap_175 hl (by decide) rfl (fun ls hl => ?_)
                  refine lv_goto (tgt := 116) hx hb d_Model_gap_177 (by decide) ?_
                  refine ih116 (F - 1, lf - ((nx - be) - 1), nx, mo_nx mI mZ zd dv la nx (sc 1)) ls (show mo_gm _ < mo_gm nx from mo_gm_lt (by assumption)) ?_ (lv_sub hl [2, 1, 0, 4, 5, 6, 7] rfl)
                  exact ⟨by have := mo_gm_lt (mI := mI) (mZ := mZ) (z := zd) (n := sc 1) (d := dv) (la := la) (nx := nx) (by assumption); omega, by rw [show F = (F - 1) + 1 by omega, mo_gp] at hJ; simpa [mo_bw, c_6, c_6n, c_7, c_7n, c_8, c_8n] using hJ⟩
                · have c_8n := sy_d32 c_8
                  refine lv_iload hx hb d_Model_gap_146 (lv_at hl 2 rfl) ?_
                  refine lv_iconst (v := 1) hx hb d_Model_gap_148 (by decide) ?_
                  refine lv_iadd hx hb d_Model_gap_149 ?_
                  refine lv_iload hx hb d_Model_gap_150 (lv_at hl 1 rfl) ?_
                  refine lv_iadd hx hb d_Model_gap_152 ?_
                  exact W.iret (v := (be + 1) + lf) hx hb hr (fun t ht hW => ⟨(be + 1) + lf, rfl, by first | (simp [mo_gap, c_2, hczd, c_3, c_3n, c_4, c_4n, c_6, c_6n, c_7, c_7n, c_8, c_8n]; done) | (have e : sc 1 = k := (by omega); rw [hI, ← e] at hJ; rw [mo_gap, if_pos (by simp [c_2, hczd, c_3, c_3n, c_4, c_4n, c_6, c_6n, c_7, c_7n, c_8, c_8n]; done), hczd, ← hJ, show F = (F - 1) + 1 by omega, mo_gp]; simp [mo_bw, c_6, c_6n, c_7, c_7n, c_8, c_8n]; done), ht⟩) (fun q h => by cases h) d_Model_gap_153
              · have c_7n := sy_d32 c_7
                refine lv_iconst (v := 0) hx hb d_Model_gap_126 (by decide) ?_
                refine lv_goto (tgt := 137) hx hb d_Model_gap_127 (by decide) ?_
                refine lv_istore (lv' := [(8, .int 0), (5, .int lf), (6, .int be), (7, .int nx), (4, .int la), (0, .ref ob), (1, .int (nI zd)), (2, .int dv)]) hx hb d_Model_gap_137 hl (by decide) rfl (fun ls hl => ?_)
                refine lv_iload hx hb d_Model_gap_139 (lv_at hl 1 rfl) ?_
                refine lv_iload hx hb d_Model_gap_141 (lv_at hl 0 rfl) ?_
                refine lv_icmp_ge (tgt := 154) hx hb d_Model_gap_143 (by decide) (fun c_10 => ?_) (fun c_10 => ?_)
                · have c_10n := sy_c32 c_10
                  refine lv_iload hx hb d_Model_gap_154 (lv_at hl 1 rfl) ?_
                  refine lv_iload hx hb d_Model_gap_156 (lv_at hl 0 rfl) ?_
                  refine lv_isub hx hb d_Model_gap_158 ?_
                  refine lv_istore (lv' := [(5, .int (lf - 0)), (8, .int 0), (6, .int be), (7, .int nx), (4, .int la), (0, .ref ob), (1, .int (nI zd)), (2, .int dv)]) hx hb d_Model_gap_159 hl (by decide) rfl (fun ls hl => ?_)
                  refine lv_iload hx hb d_Model_gap_161 (lv_at hl 3 rfl) ?_
                  refine lv_istore (lv' := [(6, .int nx), (5, .int (lf - 0)), (8, .int 0), (7, .int nx), (4, .int la), (0, .ref ob), (1, .int (nI zd)), (2, .int dv)]) hx hb d_Model_gap_163 hl (by decide) rfl (fun ls hl => ?_)
                  refine lv_aload_n hx hb d_Model_gap_165 rfl (lv_at hl 5 rfl) ?_
                  refine lv_iload_n hx hb d_Model_gap_166 rfl (lv_at hl 6 rfl) ?_
                  refine lv_iload_n hx hb d_Model_gap_167 rfl (lv_at hl 7 rfl) ?_
                  refine lv_iload hx hb d_Model_gap_168 (lv_at hl 4 rfl) ?_
                  refine lv_iload hx hb d_Model_gap_170 (lv_at hl 0 rfl) ?_
                  refine vp_callSi (va_Run.run (sy_runV (As := [.int (nI zd), .int dv, .int la, .int nx]) (rest := []) (b := ob) ⟨hx, hb, hml, hown, ht⟩ cl_Model_129 (c_Model_nextNumber l G ob ad sc mI mL mZ zd dv la nx (by omega) (by omega)) hK hP (va_recv hK.1 hP (ci := 7) (q0 := 0) rfl rfl) rfl nm_Model_nextNumber rfl rfl ⟨Nat.le_of_ble_eq_true rfl, Nat.le_of_ble_eq_true rfl⟩ hl.1 (Nat.le_of_ble_eq_true rfl) d_Model_gap_172 ⟨Nat.zero_le _, Nat.zero_le _⟩)) (fun r_11 hr_11 => ?_)
                  subst hr_11
                  refine lv_istore (lv' := [(7, .int (mo_nx mI mZ zd dv la nx (sc 1))), (6, .int nx), (5, .int (lf - 0)), (8, .int 0), (4, .int la), (0, .ref ob), (1, .int (nI zd)), (2, .int dv)]) hx hb d_Model_gap_175 hl (by decide) rfl (fun ls hl => ?_)
                  refine lv_goto (tgt := 116) hx hb d_Model_gap_177 (by decide) ?_
                  refine ih116 (F - 1, lf - 0, nx, mo_nx mI mZ zd dv la nx (sc 1)) ls (show mo_gm _ < mo_gm nx from mo_gm_lt (by assumption)) ?_ (lv_sub hl [2, 1, 0, 4, 5, 6, 7] rfl)
                  exact ⟨by have := mo_gm_lt (mI := mI) (mZ := mZ) (z := zd) (n := sc 1) (d := dv) (la := la) (nx := nx) (by assumption); omega, by rw [show F = (F - 1) + 1 by omega, mo_gp] at hJ; simpa [mo_bw, c_6, c_6n, c_7, c_7n, c_10, c_10n] using hJ⟩
                · have c_10n := sy_d32 c_10
                  refine lv_iload hx hb d_Model_gap_146 (lv_at hl 2 rfl) ?_
                  refine lv_iconst (v := 1) hx hb d_Model_gap_148 (by decide) ?_
                  refine lv_iadd hx hb d_Model_gap_149 ?_
                  refine lv_iload hx hb d_Model_gap_150 (lv_at hl 1 rfl) ?_
                  refine lv_iadd hx hb d_Model_gap_152 ?_
                  exact W.iret (v := (be + 1) + lf) hx hb hr (fun t ht hW => ⟨(be + 1) + lf, rfl, by first | (simp [mo_gap, c_2, hczd, c_3, c_3n, c_4, c_4n, c_6, c_6n, c_7, c_7n, c_10, c_10n]; done) | (have e : sc 1 = k := (by omega); rw [hI, ← e] at hJ; rw [mo_gap, if_pos (by simp [c_2, hczd, c_3, c_3n, c_4, c_4n, c_6, c_6n, c_7, c_7n, c_10, c_10n]; done), hczd, ← hJ, show F = (F - 1) + 1 by omega, mo_gp]; simp [mo_bw, c_6, c_6n, c_7, c_7n, c_10, c_10n]; done), ht⟩) (fun q h => by cases h) d_Model_gap_153
          · exact ⟨Nat.lt_succ_of_le (mo_gm_le _), rfl⟩
        · have c_4 : ¬ (sc 1) ≤ k := fun h9 => c_4 ((nI_leI (a := sc 1) (b := k) (by omega) (by omega)).mpr h9)
          have c_4n : k < (sc 1) := by omega
          refine lv_aload_n hx hb d_Model_gap_29 rfl (lv_at hl 2 rfl) ?_
          refine va_get (D := G.1) (ci := 7) (v := .ref (ad 10)) (C := R_Model) (T := F_Model) (N := 23) hx hb ht i_Model hown hK.1 hP 0 rfl rfl 15 (by decide) (ht _ m_520) (fun _ h9 => h9) rfl d_Model_gap_30 ?_
          refine lv_bipush (v := 60) hx hb d_Model_gap_33 (by decide) ?_
          refine lv_iload_n hx hb d_Model_gap_35 rfl (lv_at hl 3 rfl) ?_
          refine lv_imul hx hb d_Model_gap_36 ?_
          refine sy_ti (y := nI (60 * zd)) (pk_mul 60 zd) ?_
          refine lv_iload hx hb d_Model_gap_37 (lv_at hl 0 rfl) ?_
          refine lv_iadd hx hb d_Model_gap_39 ?_
          refine sy_ti (y := nI ((60 * zd) + k)) (nI_add (60 * zd) k) ?_
          refine sy_zald hx hb hK.1 hP 11 2 rfl rfl (k := (60 * zd) + k) (by omega) (by decide) d_Model_gap_40 ?_
          refine lv_if_eq (tgt := 59) hx hb d_Model_gap_41 (by decide) (fun c_12 => ?_) (fun c_12 => ?_)
          · have c_12 : (mZ 10 ((60 * zd) + k)) = false := bI_f c_12
            refine lv_iconst (v := 0) hx hb d_Model_gap_59 (by decide) ?_
            refine lv_istore (lv' := [(6, .int 0), (5, .int (nI k)), (4, .int la), (0, .ref ob), (1, .int (nI zd)), (2, .int dv), (3, .int pk)]) hx hb d_Model_gap_60 hl (by decide) rfl (fun ls hl => ?_)
            refine lv_iload hx hb d_Model_gap_62 (lv_at hl 0 rfl) ?_
            refine lv_if_eq (tgt := 89) hx hb d_Model_gap_64 (by decide) (fun c_13 => ?_) (fun c_13 => absurd (by decide) c_13)
            refine lv_iload hx hb d_Model_gap_89 (lv_at hl 2 rfl) ?_
            refine lv_istore (lv' := [(4, .int la), (6, .int 0), (5, .int (nI k)), (0, .ref ob), (1, .int (nI zd)), (2, .int dv), (3, .int pk)]) hx hb d_Model_gap_91 hl (by decide) rfl (fun ls hl => ?_)
            refine lv_iinc (v := nI (k + 1)) (lv' := [(5, .int (nI (k + 1))), (4, .int la), (6, .int 0), (0, .ref ob), (1, .int (nI zd)), (2, .int dv), (3, .int pk)]) hx hb d_Model_gap_93 hl (k := 2) rfl (nI_add k 1) (by decide) rfl (fun ls hl => ?_)
            refine lv_goto (tgt := 20) hx hb d_Model_gap_96 (by decide) ?_
            refine ih20 (k + 1, la) ls (show sc 1 - (k + 1) < sc 1 - k by omega) ?_ (lv_sub hl [0, 1, 3, 4, 5, 6] rfl)
            exact ⟨by omega, by first | (rw [mo_la, if_pos (by simp [← hI, c_4, c_4n, c_12, c_13]; done)]; done) | (rw [mo_la, if_neg (by simp [← hI, c_4, c_4n, c_12, c_13]; done), ← hI]; done)⟩
          · have c_12 : (mZ 10 ((60 * zd) + k)) = true := bI_t c_12
            refine lv_aload_n hx hb d_Model_gap_44 rfl (lv_at hl 2 rfl) ?_
            refine va_get (D := G.1) (ci := 7) (v := .ref (ad 2)) (C := R_Model) (T := F_Model) (N := 23) hx hb ht i_Model hown hK.1 hP 0 rfl rfl 4 (by decide) (ht _ m_509) (fun _ h9 => h9) rfl d_Model_gap_45 ?_
            refine lv_iload hx hb d_Model_gap_48 (lv_at hl 0 rfl) ?_
            refine sy_iald hx hb hK.1 hP 3 0 rfl rfl (k := k) (by omega) (by decide) d_Model_gap_50 ?_
            refine lv_iload_n hx hb d_Model_gap_51 rfl (lv_at hl 4 rfl) ?_
            refine lv_icmp_ne (tgt := 59) hx hb d_Model_gap_52 (by decide) (fun c_14 => ?_) (fun c_14 => ?_)
            · refine lv_iconst (v := 0) hx hb d_Model_gap_59 (by decide) ?_
              refine lv_istore (lv' := [(6, .int 0), (5, .int (nI k)), (4, .int la), (0, .ref ob), (1, .int (nI zd)), (2, .int dv), (3, .int pk)]) hx hb d_Model_gap_60 hl (by decide) rfl (fun ls hl => ?_)
              refine lv_iload hx hb d_Model_gap_62 (lv_at hl 0 rfl) ?_
              refine lv_if_eq (tgt := 89) hx hb d_Model_gap_64 (by decide) (fun c_15 => ?_) (fun c_15 => absurd (by decide) c_15)
              refine lv_iload hx hb d_Model_gap_89 (lv_at hl 2 rfl) ?_
              refine lv_istore (lv' := [(4, .int la), (6, .int 0), (5, .int (nI k)), (0, .ref ob), (1, .int (nI zd)), (2, .int dv), (3, .int pk)]) hx hb d_Model_gap_91 hl (by decide) rfl (fun ls hl => ?_)
              refine lv_iinc (v := nI (k + 1)) (lv' := [(5, .int (nI (k + 1))), (4, .int la), (6, .int 0), (0, .ref ob), (1, .int (nI zd)), (2, .int dv), (3, .int pk)]) hx hb d_Model_gap_93 hl (k := 2) rfl (nI_add k 1) (by decide) rfl (fun ls hl => ?_)
              refine lv_goto (tgt := 20) hx hb d_Model_gap_96 (by decide) ?_
              refine ih20 (k + 1, la) ls (show sc 1 - (k + 1) < sc 1 - k by omega) ?_ (lv_sub hl [0, 1, 3, 4, 5, 6] rfl)
              exact ⟨by omega, by first | (rw [mo_la, if_pos (by simp [← hI, c_4, c_4n, c_12, c_14, c_15]; done)]; done) | (rw [mo_la, if_neg (by simp [← hI, c_4, c_4n, c_12, c_14, c_15]; done), ← hI]; done)⟩
            · refine lv_iconst (v := 1) hx hb d_Model_gap_55 (by decide) ?_
              refine lv_goto (tgt := 60) hx hb d_Model_gap_56 (by decide) ?_
              refine lv_istore (lv' := [(6, .int 1), (5, .int (nI k)), (4, .int la), (0, .ref ob), (1, .int (nI zd)), (2, .int dv), (3, .int pk)]) hx hb d_Model_gap_60 hl (by decide) rfl (fun ls hl => ?_)
              refine lv_iload hx hb d_Model_gap_62 (lv_at hl 0 rfl) ?_
              refine lv_if_eq (tgt := 89) hx hb d_Model_gap_64 (by decide) (fun c_16 => absurd c_16 (by decide)) (fun c_16 => ?_)
              refine lv_aload_n hx hb d_Model_gap_67 rfl (lv_at hl 3 rfl) ?_
              refine va_get (D := G.1) (ci := 7) (v := .ref (ad 3)) (C := R_Model) (T := F_Model) (N := 23) hx hb ht i_Model hown hK.1 hP 0 rfl rfl 5 (by decide) (ht _ m_510) (fun _ h9 => h9) rfl d_Model_gap_68 ?_
              refine lv_iload hx hb d_Model_gap_71 (lv_at hl 1 rfl) ?_
              refine sy_iald hx hb hK.1 hP 4 0 rfl rfl (k := k) (by omega) (by decide) d_Model_gap_73 ?_
              refine lv_iload hx hb d_Model_gap_74 (lv_at hl 2 rfl) ?_
              refine lv_icmp_le (tgt := 89) hx hb d_Model_gap_76 (by decide) (fun c_17 => ?_) (fun c_17 => ?_)
              · have c_17n := sy_c32 c_17
                refine lv_iload hx hb d_Model_gap_89 (lv_at hl 2 rfl) ?_
                refine lv_istore (lv' := [(4, .int la), (6, .int 1), (5, .int (nI k)), (0, .ref ob), (1, .int (nI zd)), (2, .int dv), (3, .int pk)]) hx hb d_Model_gap_91 hl (by decide) rfl (fun ls hl => ?_)
                refine lv_iinc (v := nI (k + 1)) (lv' := [(5, .int (nI (k + 1))), (4, .int la), (6, .int 1), (0, .ref ob), (1, .int (nI zd)), (2, .int dv), (3, .int pk)]) hx hb d_Model_gap_93 hl (k := 2) rfl (nI_add k 1) (by decide) rfl (fun ls hl => ?_)
                refine lv_goto (tgt := 20) hx hb d_Model_gap_96 (by decide) ?_
                refine ih20 (k + 1, la) ls (show sc 1 - (k + 1) < sc 1 - k by omega) ?_ (lv_sub hl [0, 1, 3, 4, 5, 6] rfl)
                exact ⟨by omega, by first | (rw [mo_la, if_pos (by simp [← hI, c_4, c_4n, c_12, c_14, c_16, c_17, c_17n]; done)]; done) | (rw [mo_la, if_neg (by simp [← hI, c_4, c_4n, c_12, c_14, c_16, c_17, c_17n]; done), ← hI]; done)⟩
              · have c_17n := sy_d32 c_17
                refine lv_aload_n hx hb d_Model_gap_79 rfl (lv_at hl 3 rfl) ?_
                refine va_get (D := G.1) (ci := 7) (v := .ref (ad 3)) (C := R_Model) (T := F_Model) (N := 23) hx hb ht i_Model hown hK.1 hP 0 rfl rfl 5 (by decide) (ht _ m_510) (fun _ h9 => h9) rfl d_Model_gap_80 ?_
                refine lv_iload hx hb d_Model_gap_83 (lv_at hl 1 rfl) ?_
                refine sy_iald hx hb hK.1 hP 4 0 rfl rfl (k := k) (by omega) (by decide) d_Model_gap_85 ?_
                refine lv_goto (tgt := 91) hx hb d_Model_gap_86 (by decide) ?_
                refine lv_istore (lv' := [(4, .int (mI 3 k)), (6, .int 1), (5, .int (nI k)), (0, .ref ob), (1, .int (nI zd)), (2, .int dv), (3, .int pk)]) hx hb d_Model_gap_91 hl (by decide) rfl (fun ls hl => ?_)
                refine lv_iinc (v := nI (k + 1)) (lv' := [(5, .int (nI (k + 1))), (4, .int (mI 3 k)), (6, .int 1), (0, .ref ob), (1, .int (nI zd)), (2, .int dv), (3, .int pk)]) hx hb d_Model_gap_93 hl (k := 2) rfl (nI_add k 1) (by decide) rfl (fun ls hl => ?_)
                refine lv_goto (tgt := 20) hx hb d_Model_gap_96 (by decide) ?_
                refine ih20 (k + 1, mI 3 k) ls (show sc 1 - (k + 1) < sc 1 - k by omega) ?_ (lv_sub hl [0, 1, 3, 4, 5, 6] rfl)
                exact ⟨by omega, by first | (rw [mo_la, if_pos (by simp [← hI, c_4, c_4n, c_12, c_14, c_16, c_17, c_17n]; done)]; done) | (rw [mo_la, if_neg (by simp [← hI, c_4, c_4n, c_12, c_14, c_16, c_17, c_17n]; done), ← hI]; done)⟩
      · exact ⟨Nat.zero_le _, rfl⟩
    · have c_3n := sy_d32 c_3
      refine lv_iconst (v := (-1)) hx hb d_Model_gap_12 (by decide) ?_
      exact W.iret (v := (-1 : Int32)) hx hb hr (fun t ht hW => ⟨(-1 : Int32), rfl, by first | (simp [mo_gap, c_2, hczd, c_3, c_3n]; done) | (have e : sc 1 = k := (by omega); rw [hI, ← e] at hJ; rw [mo_gap, if_pos (by simp [c_2, hczd, c_3, c_3n]; done), hczd, ← hJ, show F = (F - 1) + 1 by omega, mo_gp]; simp [mo_bw, c_2, hczd, c_3, c_3n]; done), ht⟩) (fun q h => by cases h) d_Model_gap_13
