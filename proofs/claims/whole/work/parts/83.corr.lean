set_option maxHeartbeats 4000000 in
set_option maxRecDepth 100000 in
theorem c_Model_corrected (l : Launch) (G : sy_G) (ob : Nat) (ad : Nat → Nat) (sc : Nat → Nat) (mI : Nat → Nat → Int32) (mL : Nat → Nat → Int64) (mZ : Nat → Nat → Bool) (d : Int32) (x : Int64) (pt : Int32) (hd : sc 0 ≤ 4) (hm : ∀ d, d < 4 → ∃ j, j ≤ 10 ∧ mI 15 d = nI j) (ho : ∀ z i j, z < sc 0 → mo_in x 0 1000000 = true → mo_cb mI z x (mI 15 z).toNatClampNeg = some i → mo_ch mI z x (mI 15 z).toNatClampNeg = some j → mo_ln mI x i j) : Met l y_Model_corrected (sy_w y_Model_corrected b_Model_corrected 13 (some .long)) { frames := 1, cells := 0, slots := 0, locals := 29 } (va_Pc [.ref ob, .int d, .long x, .int pt] (sy_KP G (va_P G.1 classes (mw G.2 ob ad sc mI mL mZ)))) (vp_Sl (fun r => r = mo_corr sc mI d x pt)) 0 0 (fun _ => False) := by
  refine Met.ofW (cc := b_Model_corrected) (maxL := 13) (ret := (some .long)) (by decide) rfl ?_
  intro p e s m args below meth c s₁ B hml hv
  obtain ⟨rfl, hP, hK⟩ := hv
  have hx := B.exec
  have hb := B.bytes
  have hr := B.returns
  have hts := atoms_spec (ws := sy_w y_Model_corrected b_Model_corrected 13 (some .long)) B.pre
  have ht : ∀ wd ∈ sy_T, wd.before ([.ref ob, .int d, .long x, .int pt] : List Value).toArray s = true := fun wd h => hts wd (List.mem_cons_of_mem _ h)
  have hown : s.vm.findClass R_Model = some m.cls := findClass_of_methodNamed B.named
  have hlocks := B.notSynchronized
  have hl := lv_entry ([.ref ob, .int d, .long x, .int pt]) (n := 13) (Nat.le_of_ble_eq_true rfl)
  rw [lg_entry_eq]
  generalize (lg_sl ([.ref ob, .int d, .long x, .int pt]) ++ List.replicate (13 - (lg_sl ([.ref ob, .int d, .long x, .int pt])).length) Slot.unset).toArray = ls at hl ⊢
  have hl : lv_has ls 13 [(0, .ref ob), (1, .int d), (2, .long x), (4, .int pt)] := hl
  refine lv_aload_n hx hb d_Model_corrected_0 rfl (lv_at hl 0 rfl) ?_
  refine lv_iload_n hx hb d_Model_corrected_1 rfl (lv_at hl 1 rfl) ?_
  refine vp_callSi (va_Run.run (sy_runV (As := [.int d]) (rest := []) (b := ob) ⟨hx, hb, hml, hown, ht⟩ cl_Model_73 (c_Model_isDevice l G ob ad sc mI mL mZ d (by omega)) hK hP (va_recv hK.1 hP (ci := 7) (q0 := 0) rfl rfl) rfl nm_Model_isDevice rfl rfl ⟨Nat.le_of_ble_eq_true rfl, Nat.le_of_ble_eq_true rfl⟩ hl.1 (Nat.le_of_ble_eq_true rfl) d_Model_corrected_2 ⟨Nat.zero_le _, Nat.zero_le _⟩)) (fun r_1 hr_1 => ?_)
  subst hr_1
  refine lv_if_eq (tgt := 30) hx hb d_Model_corrected_5 (by decide) (fun c_2 => ?_) (fun c_2 => ?_)
  · have c_2 : (mo_ok (sc 0) d) = false := bI_f c_2
    refine lv_ldc2 (v := (-9223372036854775808)) hx hb hown (ht _ m_659) d_Model_corrected_30 ?_
    exact W.lret (v := (-9223372036854775808 : Int64)) hx hb hr (fun t ht hW => ⟨(-9223372036854775808 : Int64), rfl, by first | (simp [mo_corr, c_2]; done) | (have ek8 : mz = k := (by omega); rw [mo_corr, if_pos (by simp [c_2]; done), hczd, emz, hcm, ek8, ← hI1, ← hI2]; first | (simp [mo_cq, mo_of, c_2]; done) | (simp only [mo_cq]; rw [ea9, eb9, pq_lN2 ha9, pq_lN2 hb9]; first | (rw [if_pos (by assumption), ← ea9]; rfl) | (rw [if_neg (by assumption), ← eb9]; rfl))), ht⟩) (fun q h => by cases h) d_Model_corrected_33
  · have c_2 : (mo_ok (sc 0) d) = true := bI_t c_2
    obtain ⟨zd, hzd, ezd⟩ := mo_ix (by omega) c_2
    subst ezd
    have hczd : (nI zd).toNatClampNeg = zd := nI_clamp (by omega)
    obtain ⟨mz, hmz, emz⟩ := hm zd (by omega)
    have hcm : (nI mz).toNatClampNeg = mz := nI_clamp (by omega)
    refine lv_lload_n hx hb d_Model_corrected_8 rfl (lv_at hl 2 rfl) ?_
    refine lv_lconst (v := 0) hx hb d_Model_corrected_9 (by decide) ?_
    refine lv_ldc2 (v := 1000000) hx hb hown (ht _ m_588) d_Model_corrected_10 ?_
    refine vp_callSi (va_Run.run (sy_runS (As := [.long x, .long 0, .long 1000000]) (rest := []) ⟨hx, hb, hml, hown, ht⟩ cl_Model_79 (c_Model_isIn l G x (0 : Int64) (1000000 : Int64)) hK trivial rfl nm_Model_isIn rfl rfl ⟨Nat.le_of_ble_eq_true rfl, Nat.le_of_ble_eq_true rfl⟩ hl.1 (Nat.le_of_ble_eq_true rfl) d_Model_corrected_13 ⟨Nat.zero_le _, Nat.zero_le _⟩)) (fun r_3 hr_3 => ?_)
    subst hr_3
    refine lv_if_eq (tgt := 30) hx hb d_Model_corrected_16 (by decide) (fun c_4 => ?_) (fun c_4 => ?_)
    · have c_4 : (mo_in x (0 : Int64) (1000000 : Int64)) = false := bI_f c_4
      refine lv_ldc2 (v := (-9223372036854775808)) hx hb hown (ht _ m_659) d_Model_corrected_30 ?_
      exact W.lret (v := (-9223372036854775808 : Int64)) hx hb hr (fun t ht hW => ⟨(-9223372036854775808 : Int64), rfl, by first | (simp [mo_corr, c_2, hczd, emz, hcm, c_4]; done) | (have ek8 : mz = k := (by omega); rw [mo_corr, if_pos (by simp [c_2, hczd, emz, hcm, c_4]; done), hczd, emz, hcm, ek8, ← hI1, ← hI2]; first | (simp [mo_cq, mo_of, c_2, hczd, emz, hcm, c_4]; done) | (simp only [mo_cq]; rw [ea9, eb9, pq_lN2 ha9, pq_lN2 hb9]; first | (rw [if_pos (by assumption), ← ea9]; rfl) | (rw [if_neg (by assumption), ← eb9]; rfl))), ht⟩) (fun q h => by cases h) d_Model_corrected_33
    · have c_4 : (mo_in x (0 : Int64) (1000000 : Int64)) = true := bI_t c_4
      refine lv_iload hx hb d_Model_corrected_19 (lv_at hl 3 rfl) ?_
      refine lv_if_lt (tgt := 30) hx hb d_Model_corrected_21 (by decide) (fun c_5 => ?_) (fun c_5 => ?_)
      · have c_5n := sy_a32 c_5
        refine lv_ldc2 (v := (-9223372036854775808)) hx hb hown (ht _ m_659) d_Model_corrected_30 ?_
        exact W.lret (v := (-9223372036854775808 : Int64)) hx hb hr (fun t ht hW => ⟨(-9223372036854775808 : Int64), rfl, by first | (simp [mo_corr, c_2, hczd, emz, hcm, c_4, c_5, c_5n]; done) | (have ek8 : mz = k := (by omega); rw [mo_corr, if_pos (by simp [c_2, hczd, emz, hcm, c_4, c_5, c_5n]; done), hczd, emz, hcm, ek8, ← hI1, ← hI2]; first | (simp [mo_cq, mo_of, c_2, hczd, emz, hcm, c_4, c_5, c_5n]; done) | (simp only [mo_cq]; rw [ea9, eb9, pq_lN2 ha9, pq_lN2 hb9]; first | (rw [if_pos (by assumption), ← ea9]; rfl) | (rw [if_neg (by assumption), ← eb9]; rfl))), ht⟩) (fun q h => by cases h) d_Model_corrected_33
      · have c_5n := sy_b32 c_5
        refine lv_iload hx hb d_Model_corrected_24 (lv_at hl 3 rfl) ?_
        refine lv_iconst (v := 1) hx hb d_Model_corrected_26 (by decide) ?_
        refine lv_icmp_le (tgt := 34) hx hb d_Model_corrected_27 (by decide) (fun c_6 => ?_) (fun c_6 => ?_)
        · have c_6n := sy_c32 c_6
          refine lv_iconst (v := (-1)) hx hb d_Model_corrected_34 (by decide) ?_
          refine lv_istore (lv' := [(5, .int (-1)), (0, .ref ob), (1, .int (nI zd)), (2, .long x), (4, .int pt)]) hx hb d_Model_corrected_35 hl (by decide) rfl (fun ls hl => ?_)
          refine lv_iconst (v := (-1)) hx hb d_Model_corrected_37 (by decide) ?_
          refine lv_istore (lv' := [(6, .int (-1)), (5, .int (-1)), (0, .ref ob), (1, .int (nI zd)), (2, .long x), (4, .int pt)]) hx hb d_Model_corrected_38 hl (by decide) rfl (fun ls hl => ?_)
          refine lv_iconst (v := 0) hx hb d_Model_corrected_40 (by decide) ?_
          refine lv_istore (lv' := [(7, .int 0), (6, .int (-1)), (5, .int (-1)), (0, .ref ob), (1, .int (nI zd)), (2, .long x), (4, .int pt)]) hx hb d_Model_corrected_41 hl (by decide) rfl (fun ls hl => ?_)
          refine sy_loop (σ := Nat × Option Nat × Option Nat) (nL := 13) (fun x43 => match x43 with | (k, o1, o2) => mz - k) (fun x43 => match x43 with | (k, o1, o2) => [(7, .int (nI k)), (5, .int (oI o1)), (6, .int (oI o2)), (0, .ref ob), (1, .int (nI zd)), (2, .long x), (4, .int pt)]) (fun x43 => match x43 with | (k, o1, o2) => k ≤ mz ∧ o1 = mo_cb mI zd x k ∧ o2 = mo_ch mI zd x k) ?_ (0, none, none) ?_ (lv_sub hl [0, 2, 1, 3, 4, 5, 6] rfl)
          · intro x43 ls hI hl ih43
            obtain ⟨k, o1, o2⟩ := x43
            have hl : lv_has ls 13 [(7, .int (nI k)), (5, .int (oI o1)), (6, .int (oI o2)), (0, .ref ob), (1, .int (nI zd)), (2, .long x), (4, .int pt)] := hl
            obtain ⟨hk, hI1, hI2⟩ := hI
            refine lv_iload hx hb d_Model_corrected_43 (lv_at hl 0 rfl) ?_
            refine lv_aload_n hx hb d_Model_corrected_45 rfl (lv_at hl 3 rfl) ?_
            refine va_get (D := G.1) (ci := 7) (v := .ref (ad 15)) (C := R_Model) (T := F_Model) (N := 23) hx hb ht i_Model hown hK.1 hP 0 rfl rfl 20 (by decide) (ht _ m_525) (fun _ h9 => h9) rfl d_Model_corrected_46 ?_
            refine lv_iload_n hx hb d_Model_corrected_49 rfl (lv_at hl 4 rfl) ?_
            refine sy_iald hx hb hK.1 hP 16 0 rfl rfl (k := zd) (by omega) (by decide) d_Model_corrected_50 ?_
            refine sy_ti (y := nI mz) emz ?_
            refine lv_icmp_ge (tgt := 118) hx hb d_Model_corrected_51 (by decide) (fun c_7 => ?_) (fun c_7 => ?_)
            · have c_7 : mz ≤ k := (nI_leI (a := mz) (b := k) (by omega) (by omega)).mp c_7
              have c_7n : ¬ k < mz := by omega
              refine lv_iload hx hb d_Model_corrected_118 (lv_at hl 1 rfl) ?_
              rcases o1 with _ | j_8
              · have hl : lv_has ls 13 [(7, .int (nI k)), (5, .int (-1)), (6, .int (oI o2)), (0, .ref ob), (1, .int (nI zd)), (2, .long x), (4, .int pt)] := hl
                refine lv_if_lt (tgt := 128) hx hb d_Model_corrected_120 (by decide) (fun c_9 => ?_) (fun c_9 => absurd (by decide) c_9)
                refine lv_iload hx hb d_Model_corrected_128 (lv_at hl 1 rfl) ?_
                refine lv_if_ge (tgt := 138) hx hb d_Model_corrected_130 (by decide) (fun c_10 => absurd c_10 (by decide)) (fun c_10 => ?_)
                refine lv_iload hx hb d_Model_corrected_133 (lv_at hl 2 rfl) ?_
                refine lv_goto (tgt := 140) hx hb d_Model_corrected_135 (by decide) ?_
                refine lv_istore (lv' := [(7, .int (oI o2)), (5, .int (-1)), (6, .int (oI o2)), (0, .ref ob), (1, .int (nI zd)), (2, .long x), (4, .int pt)]) hx hb d_Model_corrected_140 hl (by decide) rfl (fun ls hl => ?_)
                refine lv_iload hx hb d_Model_corrected_142 (lv_at hl 0 rfl) ?_
                rcases o2 with _ | j_11
                · have hl : lv_has ls 13 [(7, .int (-1)), (5, .int (-1)), (6, .int (-1)), (0, .ref ob), (1, .int (nI zd)), (2, .long x), (4, .int pt)] := hl
                  refine lv_if_ge (tgt := 151) hx hb d_Model_corrected_144 (by decide) (fun c_12 => absurd c_12 (by decide)) (fun c_12 => ?_)
                  refine lv_lconst (v := 0) hx hb d_Model_corrected_147 (by decide) ?_
                  refine lv_goto (tgt := 167) hx hb d_Model_corrected_148 (by decide) ?_
                  refine lv_lstore (lv' := [(8, .long 0), (7, .int (-1)), (5, .int (-1)), (6, .int (-1)), (0, .ref ob), (1, .int (nI zd)), (2, .long x), (4, .int pt)]) hx hb d_Model_corrected_167 hl (by decide) rfl (fun ls hl => ?_)
                  refine lv_iload hx hb d_Model_corrected_169 (lv_at hl 7 rfl) ?_
                  refine lv_if_ne (tgt := 181) hx hb d_Model_corrected_171 (by decide) (fun c_13 => ?_) (fun c_13 => ?_)
                  · refine lv_lconst (v := 1) hx hb d_Model_corrected_181 (by decide) ?_
                    exact W.lret (v := (1 : Int64)) hx hb hr (fun t ht hW => ⟨(1 : Int64), rfl, by first | (simp [mo_corr, c_2, hczd, emz, hcm, c_4, c_5, c_5n, c_6, c_6n, c_7, c_7n, c_9, c_10, c_12, c_13]; done) | (have ek8 : mz = k := (by omega); rw [mo_corr, if_pos (by simp [c_2, hczd, emz, hcm, c_4, c_5, c_5n, c_6, c_6n, c_7, c_7n, c_9, c_10, c_12, c_13]; done), hczd, emz, hcm, ek8, ← hI1, ← hI2]; first | (simp [mo_cq, mo_of, c_7, c_7n, c_9, c_10, c_12, c_13]; done) | (simp only [mo_cq]; rw [ea9, eb9, pq_lN2 ha9, pq_lN2 hb9]; first | (rw [if_pos (by assumption), ← ea9]; rfl) | (rw [if_neg (by assumption), ← eb9]; rfl))), ht⟩) (fun q h => by cases h) d_Model_corrected_182
                  · refine lv_lload_n hx hb d_Model_corrected_174 rfl (lv_at hl 6 rfl) ?_
                    refine lv_lload hx hb d_Model_corrected_175 (lv_at hl 0 rfl) ?_
                    refine lv_ladd hx hb d_Model_corrected_177 ?_
                    refine lv_goto (tgt := 182) hx hb d_Model_corrected_178 (by decide) ?_
                    exact W.lret (v := x + 0) hx hb hr (fun t ht hW => ⟨x + 0, rfl, by first | (simp [mo_corr, c_2, hczd, emz, hcm, c_4, c_5, c_5n, c_6, c_6n, c_7, c_7n, c_9, c_10, c_12, c_13]; done) | (have ek8 : mz = k := (by omega); rw [mo_corr, if_pos (by simp [c_2, hczd, emz, hcm, c_4, c_5, c_5n, c_6, c_6n, c_7, c_7n, c_9, c_10, c_12, c_13]; done), hczd, emz, hcm, ek8, ← hI1, ← hI2]; first | (simp [mo_cq, mo_of, c_7, c_7n, c_9, c_10, c_12, c_13]; done) | (simp only [mo_cq]; rw [ea9, eb9, pq_lN2 ha9, pq_lN2 hb9]; first | (rw [if_pos (by assumption), ← ea9]; rfl) | (rw [if_neg (by assumption), ← eb9]; rfl))), ht⟩) (fun q h => by cases h) d_Model_corrected_182
                · have hl : lv_has ls 13 [(7, .int (nI j_11)), (5, .int (-1)), (6, .int (nI j_11)), (0, .ref ob), (1, .int (nI zd)), (2, .long x), (4, .int pt)] := hl
                  have hj_11 : j_11 < 10 * zd + k := mo_ch_lt hI2.symm
                  refine lv_if_ge (tgt := 151) hx hb d_Model_corrected_144 (by decide) (fun c_14 => ?_) (fun c_14 => absurd (nI_pos' (by omega)) c_14)
                  refine lv_aload_n hx hb d_Model_corrected_151 rfl (lv_at hl 3 rfl) ?_
                  refine va_get (D := G.1) (ci := 7) (v := .ref (ad 17)) (C := R_Model) (T := F_Model) (N := 23) hx hb ht i_Model hown hK.1 hP 0 rfl rfl 22 (by decide) (ht _ m_527) (fun _ h9 => h9) rfl d_Model_corrected_152 ?_
                  refine lv_iload hx hb d_Model_corrected_155 (lv_at hl 0 rfl) ?_
                  refine sy_iald hx hb hK.1 hP 18 0 rfl rfl (k := j_11) (by omega) (by decide) d_Model_corrected_157 ?_
                  refine lv_aload_n hx hb d_Model_corrected_158 rfl (lv_at hl 3 rfl) ?_
                  refine va_get (D := G.1) (ci := 7) (v := .ref (ad 16)) (C := R_Model) (T := F_Model) (N := 23) hx hb ht i_Model hown hK.1 hP 0 rfl rfl 21 (by decide) (ht _ m_526) (fun _ h9 => h9) rfl d_Model_corrected_159 ?_
                  refine lv_iload hx hb d_Model_corrected_162 (lv_at hl 0 rfl) ?_
                  refine sy_iald hx hb hK.1 hP 17 0 rfl rfl (k := j_11) (by omega) (by decide) d_Model_corrected_164 ?_
                  refine lv_isub hx hb d_Model_corrected_165 ?_
                  refine lv_i2l (v := ((mI 17 j_11) - (mI 16 j_11)).toInt64) hx hb d_Model_corrected_166 rfl ?_
                  refine lv_lstore (lv' := [(8, .long (((mI 17 j_11) - (mI 16 j_11)).toInt64)), (7, .int (nI j_11)), (5, .int (-1)), (6, .int (nI j_11)), (0, .ref ob), (1, .int (nI zd)), (2, .long x), (4, .int pt)]) hx hb d_Model_corrected_167 hl (by decide) rfl (fun ls hl => ?_)
                  refine lv_iload hx hb d_Model_corrected_169 (lv_at hl 7 rfl) ?_
                  refine lv_if_ne (tgt := 181) hx hb d_Model_corrected_171 (by decide) (fun c_15 => ?_) (fun c_15 => ?_)
                  · refine lv_lconst (v := 1) hx hb d_Model_corrected_181 (by decide) ?_
                    exact W.lret (v := (1 : Int64)) hx hb hr (fun t ht hW => ⟨(1 : Int64), rfl, by first | (simp [mo_corr, c_2, hczd, emz, hcm, c_4, c_5, c_5n, c_6, c_6n, c_7, c_7n, c_9, c_10, c_14, c_15]; done) | (have ek8 : mz = k := (by omega); rw [mo_corr, if_pos (by simp [c_2, hczd, emz, hcm, c_4, c_5, c_5n, c_6, c_6n, c_7, c_7n, c_9, c_10, c_14, c_15]; done), hczd, emz, hcm, ek8, ← hI1, ← hI2]; first | (simp [mo_cq, mo_of, c_7, c_7n, c_9, c_10, c_14, c_15]; done) | (simp only [mo_cq]; rw [ea9, eb9, pq_lN2 ha9, pq_lN2 hb9]; first | (rw [if_pos (by assumption), ← ea9]; rfl) | (rw [if_neg (by assumption), ← eb9]; rfl))), ht⟩) (fun q h => by cases h) d_Model_corrected_182
                  · refine lv_lload_n hx hb d_Model_corrected_174 rfl (lv_at hl 6 rfl) ?_
                    refine lv_lload hx hb d_Model_corrected_175 (lv_at hl 0 rfl) ?_
                    refine lv_ladd hx hb d_Model_corrected_177 ?_
                    refine lv_goto (tgt := 182) hx hb d_Model_corrected_178 (by decide) ?_
                    exact W.lret (v := x + (((mI 17 j_11) - (mI 16 j_11)).toInt64)) hx hb hr (fun t ht hW => ⟨x + (((mI 17 j_11) - (mI 16 j_11)).toInt64), rfl, by first | (simp [mo_corr, c_2, hczd, emz, hcm, c_4, c_5, c_5n, c_6, c_6n, c_7, c_7n, c_9, c_10, c_14, c_15]; done) | (have ek8 : mz = k := (by omega); rw [mo_corr, if_pos (by simp [c_2, hczd, emz, hcm, c_4, c_5, c_5n, c_6, c_6n, c_7, c_7n, c_9, c_10, c_14, c_15]; done), hczd, emz, hcm, ek8, ← hI1, ← hI2]; first | (simp [mo_cq, mo_of, c_7, c_7n, c_9, c_10, c_14, c_15]; done) | (simp only [mo_cq]; rw [ea9, eb9, pq_lN2 ha9, pq_lN2 hb9]; first | (rw [if_pos (by assumption), ← ea9]; rfl) | (rw [if_neg (by assumption), ← eb9]; rfl))), ht⟩) (fun q h => by cases h) d_Model_corrected_182
              · have hl : lv_has ls 13 [(7, .int (nI k)), (5, .int (nI j_8)), (6, .int (oI o2)), (0, .ref ob), (1, .int (nI zd)), (2, .long x), (4, .int pt)] := hl
                have hj_8 : j_8 < 10 * zd + k := mo_cb_lt hI1.symm
                refine lv_if_lt (tgt := 128) hx hb d_Model_corrected_120 (by decide) (fun c_16 => absurd c_16 (nI_pos (by omega))) (fun c_16 => ?_)
                refine lv_iload hx hb d_Model_corrected_123 (lv_at hl 2 rfl) ?_
                rcases o2 with _ | j_17
                · have hl : lv_has ls 13 [(7, .int (nI k)), (5, .int (nI j_8)), (6, .int (-1)), (0, .ref ob), (1, .int (nI zd)), (2, .long x), (4, .int pt)] := hl
                  refine lv_if_ge (tgt := 183) hx hb d_Model_corrected_125 (by decide) (fun c_18 => absurd c_18 (by decide)) (fun c_18 => ?_)
                  refine lv_iload hx hb d_Model_corrected_128 (lv_at hl 1 rfl) ?_
                  refine lv_if_ge (tgt := 138) hx hb d_Model_corrected_130 (by decide) (fun c_19 => ?_) (fun c_19 => absurd (nI_pos' (by omega)) c_19)
                  refine lv_iload hx hb d_Model_corrected_138 (lv_at hl 1 rfl) ?_
                  refine lv_istore (lv' := [(7, .int (nI j_8)), (5, .int (nI j_8)), (6, .int (-1)), (0, .ref ob), (1, .int (nI zd)), (2, .long x), (4, .int pt)]) hx hb d_Model_corrected_140 hl (by decide) rfl (fun ls hl => ?_)
                  refine lv_iload hx hb d_Model_corrected_142 (lv_at hl 0 rfl) ?_
                  refine lv_if_ge (tgt := 151) hx hb d_Model_corrected_144 (by decide) (fun c_20 => ?_) (fun c_20 => absurd (nI_pos' (by omega)) c_20)
                  refine lv_aload_n hx hb d_Model_corrected_151 rfl (lv_at hl 3 rfl) ?_
                  refine va_get (D := G.1) (ci := 7) (v := .ref (ad 17)) (C := R_Model) (T := F_Model) (N := 23) hx hb ht i_Model hown hK.1 hP 0 rfl rfl 22 (by decide) (ht _ m_527) (fun _ h9 => h9) rfl d_Model_corrected_152 ?_
                  refine lv_iload hx hb d_Model_corrected_155 (lv_at hl 0 rfl) ?_
                  refine sy_iald hx hb hK.1 hP 18 0 rfl rfl (k := j_8) (by omega) (by decide) d_Model_corrected_157 ?_
                  refine lv_aload_n hx hb d_Model_corrected_158 rfl (lv_at hl 3 rfl) ?_
                  refine va_get (D := G.1) (ci := 7) (v := .ref (ad 16)) (C := R_Model) (T := F_Model) (N := 23) hx hb ht i_Model hown hK.1 hP 0 rfl rfl 21 (by decide) (ht _ m_526) (fun _ h9 => h9) rfl d_Model_corrected_159 ?_
                  refine lv_iload hx hb d_Model_corrected_162 (lv_at hl 0 rfl) ?_
                  refine sy_iald hx hb hK.1 hP 17 0 rfl rfl (k := j_8) (by omega) (by decide) d_Model_corrected_164 ?_
                  refine lv_isub hx hb d_Model_corrected_165 ?_
                  refine lv_i2l (v := ((mI 17 j_8) - (mI 16 j_8)).toInt64) hx hb d_Model_corrected_166 rfl ?_
                  refine lv_lstore (lv' := [(8, .long (((mI 17 j_8) - (mI 16 j_8)).toInt64)), (7, .int (nI j_8)), (5, .int (nI j_8)), (6, .int (-1)), (0, .ref ob), (1, .int (nI zd)), (2, .long x), (4, .int pt)]) hx hb d_Model_corrected_167 hl (by decide) rfl (fun ls hl => ?_)
                  refine lv_iload hx hb d_Model_corrected_169 (lv_at hl 7 rfl) ?_
                  refine lv_if_ne (tgt := 181) hx hb d_Model_corrected_171 (by decide) (fun c_21 => ?_) (fun c_21 => ?_)
                  · refine lv_lconst (v := 1) hx hb d_Model_corrected_181 (by decide) ?_
                    exact W.lret (v := (1 : Int64)) hx hb hr (fun t ht hW => ⟨(1 : Int64), rfl, by first | (simp [mo_corr, c_2, hczd, emz, hcm, c_4, c_5, c_5n, c_6, c_6n, c_7, c_7n, c_16, c_18, c_19, c_20, c_21]; done) | (have ek8 : mz = k := (by omega); rw [mo_corr, if_pos (by simp [c_2, hczd, emz, hcm, c_4, c_5, c_5n, c_6, c_6n, c_7, c_7n, c_16, c_18, c_19, c_20, c_21]; done), hczd, emz, hcm, ek8, ← hI1, ← hI2]; first | (simp [mo_cq, mo_of, c_7, c_7n, c_16, c_18, c_19, c_20, c_21]; done) | (simp only [mo_cq]; rw [ea9, eb9, pq_lN2 ha9, pq_lN2 hb9]; first | (rw [if_pos (by assumption), ← ea9]; rfl) | (rw [if_neg (by assumption), ← eb9]; rfl))), ht⟩) (fun q h => by cases h) d_Model_corrected_182
                  · refine lv_lload_n hx hb d_Model_corrected_174 rfl (lv_at hl 6 rfl) ?_
                    refine lv_lload hx hb d_Model_corrected_175 (lv_at hl 0 rfl) ?_
                    refine lv_ladd hx hb d_Model_corrected_177 ?_
                    refine lv_goto (tgt := 182) hx hb d_Model_corrected_178 (by decide) ?_
                    exact W.lret (v := x + (((mI 17 j_8) - (mI 16 j_8)).toInt64)) hx hb hr (fun t ht hW => ⟨x + (((mI 17 j_8) - (mI 16 j_8)).toInt64), rfl, by first | (simp [mo_corr, c_2, hczd, emz, hcm, c_4, c_5, c_5n, c_6, c_6n, c_7, c_7n, c_16, c_18, c_19, c_20, c_21]; done) | (have ek8 : mz = k := (by omega); rw [mo_corr, if_pos (by simp [c_2, hczd, emz, hcm, c_4, c_5, c_5n, c_6, c_6n, c_7, c_7n, c_16, c_18, c_19, c_20, c_21]; done), hczd, emz, hcm, ek8, ← hI1, ← hI2]; first | (simp [mo_cq, mo_of, c_7, c_7n, c_16, c_18, c_19, c_20, c_21]; done) | (simp only [mo_cq]; rw [ea9, eb9, pq_lN2 ha9, pq_lN2 hb9]; first | (rw [if_pos (by assumption), ← ea9]; rfl) | (rw [if_neg (by assumption), ← eb9]; rfl))), ht⟩) (fun q h => by cases h) d_Model_corrected_182
                · have hl : lv_has ls 13 [(7, .int (nI k)), (5, .int (nI j_8)), (6, .int (nI j_17)), (0, .ref ob), (1, .int (nI zd)), (2, .long x), (4, .int pt)] := hl
                  have hj_17 : j_17 < 10 * zd + k := mo_ch_lt hI2.symm
                  refine lv_if_ge (tgt := 183) hx hb d_Model_corrected_125 (by decide) (fun c_22 => ?_) (fun c_22 => absurd (nI_pos' (by omega)) c_22)
                  refine lv_aload_n hx hb d_Model_corrected_183 rfl (lv_at hl 3 rfl) ?_
                  refine va_get (D := G.1) (ci := 7) (v := .ref (ad 16)) (C := R_Model) (T := F_Model) (N := 23) hx hb ht i_Model hown hK.1 hP 0 rfl rfl 21 (by decide) (ht _ m_526) (fun _ h9 => h9) rfl d_Model_corrected_184 ?_
                  refine lv_iload hx hb d_Model_corrected_187 (lv_at hl 2 rfl) ?_
                  refine sy_iald hx hb hK.1 hP 17 0 rfl rfl (k := j_17) (by omega) (by decide) d_Model_corrected_189 ?_
                  refine lv_aload_n hx hb d_Model_corrected_190 rfl (lv_at hl 3 rfl) ?_
                  refine va_get (D := G.1) (ci := 7) (v := .ref (ad 16)) (C := R_Model) (T := F_Model) (N := 23) hx hb ht i_Model hown hK.1 hP 0 rfl rfl 21 (by decide) (ht _ m_526) (fun _ h9 => h9) rfl d_Model_corrected_191 ?_
                  refine lv_iload hx hb d_Model_corrected_194 (lv_at hl 1 rfl) ?_
                  refine sy_iald hx hb hK.1 hP 17 0 rfl rfl (k := j_8) (by omega) (by decide) d_Model_corrected_196 ?_
                  refine lv_isub hx hb d_Model_corrected_197 ?_
                  refine lv_i2l (v := ((mI 16 j_17) - (mI 16 j_8)).toInt64) hx hb d_Model_corrected_198 rfl ?_
                  refine lv_lstore (lv' := [(7, .long (((mI 16 j_17) - (mI 16 j_8)).toInt64)), (5, .int (nI j_8)), (6, .int (nI j_17)), (0, .ref ob), (1, .int (nI zd)), (2, .long x), (4, .int pt)]) hx hb d_Model_corrected_199 hl (by decide) rfl (fun ls hl => ?_)
                  refine lv_aload_n hx hb d_Model_corrected_201 rfl (lv_at hl 3 rfl) ?_
                  refine va_get (D := G.1) (ci := 7) (v := .ref (ad 17)) (C := R_Model) (T := F_Model) (N := 23) hx hb ht i_Model hown hK.1 hP 0 rfl rfl 22 (by decide) (ht _ m_527) (fun _ h9 => h9) rfl d_Model_corrected_202 ?_
                  refine lv_iload hx hb d_Model_corrected_205 (lv_at hl 1 rfl) ?_
                  refine sy_iald hx hb hK.1 hP 18 0 rfl rfl (k := j_8) (by omega) (by decide) d_Model_corrected_207 ?_
                  refine lv_i2l (v := (mI 17 j_8).toInt64) hx hb d_Model_corrected_208 rfl ?_
                  refine lv_lload hx hb d_Model_corrected_209 (lv_at hl 0 rfl) ?_
                  refine lv_lmul hx hb d_Model_corrected_211 ?_
                  refine lv_lload_n hx hb d_Model_corrected_212 rfl (lv_at hl 5 rfl) ?_
                  refine lv_aload_n hx hb d_Model_corrected_213 rfl (lv_at hl 3 rfl) ?_
                  refine va_get (D := G.1) (ci := 7) (v := .ref (ad 16)) (C := R_Model) (T := F_Model) (N := 23) hx hb ht i_Model hown hK.1 hP 0 rfl rfl 21 (by decide) (ht _ m_526) (fun _ h9 => h9) rfl d_Model_corrected_214 ?_
                  refine lv_iload hx hb d_Model_corrected_217 (lv_at hl 1 rfl) ?_
                  refine sy_iald hx hb hK.1 hP 17 0 rfl rfl (k := j_8) (by omega) (by decide) d_Model_corrected_219 ?_
                  refine lv_i2l (v := (mI 16 j_8).toInt64) hx hb d_Model_corrected_220 rfl ?_
                  refine lv_lsub hx hb d_Model_corrected_221 ?_
                  refine lv_aload_n hx hb d_Model_corrected_222 rfl (lv_at hl 3 rfl) ?_
                  refine va_get (D := G.1) (ci := 7) (v := .ref (ad 17)) (C := R_Model) (T := F_Model) (N := 23) hx hb ht i_Model hown hK.1 hP 0 rfl rfl 22 (by decide) (ht _ m_527) (fun _ h9 => h9) rfl d_Model_corrected_223 ?_
                  refine lv_iload hx hb d_Model_corrected_226 (lv_at hl 2 rfl) ?_
                  refine sy_iald hx hb hK.1 hP 18 0 rfl rfl (k := j_17) (by omega) (by decide) d_Model_corrected_228 ?_
                  refine lv_aload_n hx hb d_Model_corrected_229 rfl (lv_at hl 3 rfl) ?_
                  refine va_get (D := G.1) (ci := 7) (v := .ref (ad 17)) (C := R_Model) (T := F_Model) (N := 23) hx hb ht i_Model hown hK.1 hP 0 rfl rfl 22 (by decide) (ht _ m_527) (fun _ h9 => h9) rfl d_Model_corrected_230 ?_
                  refine lv_iload hx hb d_Model_corrected_233 (lv_at hl 1 rfl) ?_
                  refine sy_iald hx hb hK.1 hP 18 0 rfl rfl (k := j_8) (by omega) (by decide) d_Model_corrected_235 ?_
                  refine lv_isub hx hb d_Model_corrected_236 ?_
                  refine lv_i2l (v := ((mI 17 j_17) - (mI 17 j_8)).toInt64) hx hb d_Model_corrected_237 rfl ?_
                  refine lv_lmul hx hb d_Model_corrected_238 ?_
                  refine lv_ladd hx hb d_Model_corrected_239 ?_
                  refine lv_lstore (lv' := [(9, .long ((((mI 17 j_8).toInt64) * (((mI 16 j_17) - (mI 16 j_8)).toInt64)) + ((x - ((mI 16 j_8).toInt64)) * (((mI 17 j_17) - (mI 17 j_8)).toInt64)))), (7, .long (((mI 16 j_17) - (mI 16 j_8)).toInt64)), (5, .int (nI j_8)), (6, .int (nI j_17)), (0, .ref ob), (1, .int (nI zd)), (2, .long x), (4, .int pt)]) hx hb d_Model_corrected_240 hl (by decide) rfl (fun ls hl => ?_)
                  refine lv_lload hx hb d_Model_corrected_242 (lv_at hl 0 rfl) ?_
                  refine lv_lload hx hb d_Model_corrected_244 (lv_at hl 1 rfl) ?_
                  have ek9 : k = mz := by omega
                  obtain ⟨a9, b9, ha9, hb0, hb9, ea9, eb9⟩ := ho zd j_8 j_17 (by omega) (by first | assumption | (simp [c_2, hczd, emz, hcm, c_4, c_5, c_5n, c_6, c_6n, c_7, c_7n, c_16, c_22]; done)) (by rw [emz, hcm, ← ek9]; exact hI1.symm) (by rw [emz, hcm, ← ek9]; exact hI2.symm)
                  refine sy_tll (x' := lN a9) (y' := lN b9) ea9 eb9 ?_
                  refine vp_callSl (va_Run.run (sy_runS (As := [.long (lN a9), .long (lN b9)]) (rest := []) ⟨hx, hb, hml, hown, ht⟩ cl_Model_144 (c_Model_common l G a9 b9 (by omega) (by omega)) hK trivial rfl nm_Model_common rfl rfl ⟨Nat.le_of_ble_eq_true rfl, Nat.le_of_ble_eq_true rfl⟩ hl.1 (Nat.le_of_ble_eq_true rfl) d_Model_corrected_246 ⟨Nat.zero_le _, Nat.zero_le _⟩)) (fun r_23 hr_23 => ?_)
                  subst hr_23
                  refine lv_lstore (lv' := [(11, .long (lN (Nat.gcd a9 b9))), (9, .long ((((mI 17 j_8).toInt64) * (((mI 16 j_17) - (mI 16 j_8)).toInt64)) + ((x - ((mI 16 j_8).toInt64)) * (((mI 17 j_17) - (mI 17 j_8)).toInt64)))), (7, .long (((mI 16 j_17) - (mI 16 j_8)).toInt64)), (5, .int (nI j_8)), (6, .int (nI j_17)), (0, .ref ob), (1, .int (nI zd)), (2, .long x), (4, .int pt)]) hx hb d_Model_corrected_249 hl (by decide) rfl (fun ls hl => ?_)
                  refine lv_iload hx hb d_Model_corrected_251 (lv_at hl 8 rfl) ?_
                  refine lv_if_ne (tgt := 264) hx hb d_Model_corrected_253 (by decide) (fun c_24 => ?_) (fun c_24 => ?_)
                  · refine lv_lload hx hb d_Model_corrected_264 (lv_at hl 2 rfl) ?_
                    refine lv_lload hx hb d_Model_corrected_266 (lv_at hl 0 rfl) ?_
                    refine lv_ldiv hx hb d_Model_corrected_268 (fun q9 => by have h8 := Nat.gcd_pos_of_pos_right a9 hb0; have h7 := Nat.gcd_le_right (n := b9) a9 hb0; have := (pk_lEQ (by omega) (by omega)).mp (show lN (Nat.gcd a9 b9) = lN 0 from q9); omega) ?_
                    exact W.lret (v := (((mI 16 j_17) - (mI 16 j_8)).toInt64) / (lN (Nat.gcd a9 b9))) hx hb hr (fun t ht hW => ⟨(((mI 16 j_17) - (mI 16 j_8)).toInt64) / (lN (Nat.gcd a9 b9)), rfl, by first | (simp [mo_corr, c_2, hczd, emz, hcm, c_4, c_5, c_5n, c_6, c_6n, c_7, c_7n, c_16, c_22, c_24]; done) | (have ek8 : mz = k := (by omega); rw [mo_corr, if_pos (by simp [c_2, hczd, emz, hcm, c_4, c_5, c_5n, c_6, c_6n, c_7, c_7n, c_16, c_22, c_24]; done), hczd, emz, hcm, ek8, ← hI1, ← hI2]; first | (simp [mo_cq, mo_of, c_7, c_7n, c_16, c_22, c_24]; done) | (simp only [mo_cq]; rw [ea9, eb9, pq_lN2 ha9, pq_lN2 hb9]; first | (rw [if_pos (by assumption), ← ea9]; rfl) | (rw [if_neg (by assumption), ← eb9]; rfl))), ht⟩) (fun q h => by cases h) d_Model_corrected_269
                  · refine lv_lload hx hb d_Model_corrected_256 (lv_at hl 1 rfl) ?_
                    refine lv_lload hx hb d_Model_corrected_258 (lv_at hl 0 rfl) ?_
                    refine lv_ldiv hx hb d_Model_corrected_260 (fun q9 => by have h8 := Nat.gcd_pos_of_pos_right a9 hb0; have h7 := Nat.gcd_le_right (n := b9) a9 hb0; have := (pk_lEQ (by omega) (by omega)).mp (show lN (Nat.gcd a9 b9) = lN 0 from q9); omega) ?_
                    refine lv_goto (tgt := 269) hx hb d_Model_corrected_261 (by decide) ?_
                    exact W.lret (v := ((((mI 17 j_8).toInt64) * (((mI 16 j_17) - (mI 16 j_8)).toInt64)) + ((x - ((mI 16 j_8).toInt64)) * (((mI 17 j_17) - (mI 17 j_8)).toInt64))) / (lN (Nat.gcd a9 b9))) hx hb hr (fun t ht hW => ⟨((((mI 17 j_8).toInt64) * (((mI 16 j_17) - (mI 16 j_8)).toInt64)) + ((x - ((mI 16 j_8).toInt64)) * (((mI 17 j_17) - (mI 17 j_8)).toInt64))) / (lN (Nat.gcd a9 b9)), rfl, by first | (simp [mo_corr, c_2, hczd, emz, hcm, c_4, c_5, c_5n, c_6, c_6n, c_7, c_7n, c_16, c_22, c_24]; done) | (have ek8 : mz = k := (by omega); rw [mo_corr, if_pos (by simp [c_2, hczd, emz, hcm, c_4, c_5, c_5n, c_6, c_6n, c_7, c_7n, c_16, c_22, c_24]; done), hczd, emz, hcm, ek8, ← hI1, ← hI2]; first | (simp [mo_cq, mo_of, c_7, c_7n, c_16, c_22, c_24]; done) | (simp only [mo_cq]; rw [ea9, eb9, pq_lN2 ha9, pq_lN2 hb9]; first | (rw [if_pos (by assumption), ← ea9]; rfl) | (rw [if_neg (by assumption), ← eb9]; rfl))), ht⟩) (fun q h => by cases h) d_Model_corrected_269
            · have c_7 : ¬ mz ≤ k := fun h9 => c_7 ((nI_leI (a := mz) (b := k) (by omega) (by omega)).mpr h9)
              have c_7n : k < mz := by omega
              refine lv_bipush (v := 10) hx hb d_Model_corrected_54 (by decide) ?_
              refine lv_iload_n hx hb d_Model_corrected_56 rfl (lv_at hl 4 rfl) ?_
              refine lv_imul hx hb d_Model_corrected_57 ?_
              refine sy_ti (y := nI (10 * zd)) (pk_mul 10 zd) ?_
              refine lv_iload hx hb d_Model_corrected_58 (lv_at hl 0 rfl) ?_
              refine lv_iadd hx hb d_Model_corrected_60 ?_
              refine sy_ti (y := nI ((10 * zd) + k)) (nI_add (10 * zd) k) ?_
              refine lv_istore (lv' := [(8, .int (nI ((10 * zd) + k))), (7, .int (nI k)), (5, .int (oI o1)), (6, .int (oI o2)), (0, .ref ob), (1, .int (nI zd)), (2, .long x), (4, .int pt)]) hx hb d_Model_corrected_61 hl (by decide) rfl (fun ls hl => ?_)
              refine lv_aload_n hx hb d_Model_corrected_63 rfl (lv_at hl 4 rfl) ?_
              refine va_get (D := G.1) (ci := 7) (v := .ref (ad 16)) (C := R_Model) (T := F_Model) (N := 23) hx hb ht i_Model hown hK.1 hP 0 rfl rfl 21 (by decide) (ht _ m_526) (fun _ h9 => h9) rfl d_Model_corrected_64 ?_
              refine lv_iload hx hb d_Model_corrected_67 (lv_at hl 0 rfl) ?_
              refine sy_iald hx hb hK.1 hP 17 0 rfl rfl (k := (10 * zd) + k) (by omega) (by decide) d_Model_corrected_69 ?_
              refine lv_i2l (v := (mI 16 ((10 * zd) + k)).toInt64) hx hb d_Model_corrected_70 rfl ?_
              refine lv_lload_n hx hb d_Model_corrected_71 rfl (lv_at hl 6 rfl) ?_
              refine sy_lc_gt (tgt := 81) hx hb d_Model_corrected_72 d_Model_corrected_73 (by decide) (fun c_25 => ?_) (fun c_25 => ?_)
              · have c_25n := sy_a64 c_25
                refine lv_iload hx hb d_Model_corrected_81 (lv_at hl 2 rfl) ?_
                refine lv_istore (lv' := [(5, .int (oI o1)), (8, .int (nI ((10 * zd) + k))), (7, .int (nI k)), (6, .int (oI o2)), (0, .ref ob), (1, .int (nI zd)), (2, .long x), (4, .int pt)]) hx hb d_Model_corrected_83 hl (by decide) rfl (fun ls hl => ?_)
                refine lv_iload hx hb d_Model_corrected_85 (lv_at hl 3 rfl) ?_
                rcases o2 with _ | j_26
                · have hl : lv_has ls 13 [(5, .int (oI o1)), (8, .int (nI ((10 * zd) + k))), (7, .int (nI k)), (6, .int (-1)), (0, .ref ob), (1, .int (nI zd)), (2, .long x), (4, .int pt)] := hl
                  refine lv_if_ge (tgt := 108) hx hb d_Model_corrected_87 (by decide) (fun c_27 => absurd c_27 (by decide)) (fun c_27 => ?_)
                  refine lv_aload_n hx hb d_Model_corrected_90 rfl (lv_at hl 4 rfl) ?_
                  refine va_get (D := G.1) (ci := 7) (v := .ref (ad 16)) (C := R_Model) (T := F_Model) (N := 23) hx hb ht i_Model hown hK.1 hP 0 rfl rfl 21 (by decide) (ht _ m_526) (fun _ h9 => h9) rfl d_Model_corrected_91 ?_
                  refine lv_iload hx hb d_Model_corrected_94 (lv_at hl 1 rfl) ?_
                  refine sy_iald hx hb hK.1 hP 17 0 rfl rfl (k := (10 * zd) + k) (by omega) (by decide) d_Model_corrected_96 ?_
                  refine lv_i2l (v := (mI 16 ((10 * zd) + k)).toInt64) hx hb d_Model_corrected_97 rfl ?_
                  refine lv_lload_n hx hb d_Model_corrected_98 rfl (lv_at hl 6 rfl) ?_
                  refine sy_lc_le (tgt := 108) hx hb d_Model_corrected_99 d_Model_corrected_100 (by decide) (fun c_28 => ?_) (fun c_28 => ?_)
                  · have c_28n := sy_c64 c_28
                    refine lv_iload hx hb d_Model_corrected_108 (lv_at hl 3 rfl) ?_
                    refine lv_istore (lv' := [(6, .int (-1)), (5, .int (oI o1)), (8, .int (nI ((10 * zd) + k))), (7, .int (nI k)), (0, .ref ob), (1, .int (nI zd)), (2, .long x), (4, .int pt)]) hx hb d_Model_corrected_110 hl (by decide) rfl (fun ls hl => ?_)
                    refine lv_iinc (v := nI (k + 1)) (lv' := [(7, .int (nI (k + 1))), (6, .int (-1)), (5, .int (oI o1)), (8, .int (nI ((10 * zd) + k))), (0, .ref ob), (1, .int (nI zd)), (2, .long x), (4, .int pt)]) hx hb d_Model_corrected_112 hl (k := 3) rfl (nI_add k 1) (by decide) rfl (fun ls hl => ?_)
                    refine lv_goto (tgt := 43) hx hb d_Model_corrected_115 (by decide) ?_
                    refine ih43 (k + 1, o1, none) ls (show mz - (k + 1) < mz - k by omega) ?_ (lv_sub hl [0, 2, 1, 4, 5, 6, 7] rfl)
                    first | contradiction | exact ⟨by omega, by first | (rw [mo_cb, if_pos (by assumption)]; done) | (rw [mo_cb, if_neg (by assumption), ← hI1]; done), by first | (rw [mo_ch, ← hI2]; done) | (rw [mo_ch, ← hI2]; simp [c_7, c_7n, c_25, c_25n, c_27, c_28, c_28n]; done)⟩
                  · have c_28n := sy_d64 c_28
                    refine lv_iload hx hb d_Model_corrected_103 (lv_at hl 1 rfl) ?_
                    refine lv_goto (tgt := 110) hx hb d_Model_corrected_105 (by decide) ?_
                    refine lv_istore (lv' := [(6, .int (nI ((10 * zd) + k))), (5, .int (oI o1)), (8, .int (nI ((10 * zd) + k))), (7, .int (nI k)), (0, .ref ob), (1, .int (nI zd)), (2, .long x), (4, .int pt)]) hx hb d_Model_corrected_110 hl (by decide) rfl (fun ls hl => ?_)
                    refine lv_iinc (v := nI (k + 1)) (lv' := [(7, .int (nI (k + 1))), (6, .int (nI ((10 * zd) + k))), (5, .int (oI o1)), (8, .int (nI ((10 * zd) + k))), (0, .ref ob), (1, .int (nI zd)), (2, .long x), (4, .int pt)]) hx hb d_Model_corrected_112 hl (k := 3) rfl (nI_add k 1) (by decide) rfl (fun ls hl => ?_)
                    refine lv_goto (tgt := 43) hx hb d_Model_corrected_115 (by decide) ?_
                    refine ih43 (k + 1, o1, (some ((10 * zd) + k))) ls (show mz - (k + 1) < mz - k by omega) ?_ (lv_sub hl [0, 2, 1, 4, 5, 6, 7] rfl)
                    first | contradiction | exact ⟨by omega, by first | (rw [mo_cb, if_pos (by assumption)]; done) | (rw [mo_cb, if_neg (by assumption), ← hI1]; done), by first | (rw [mo_ch, ← hI2]; done) | (rw [mo_ch, ← hI2]; simp [c_7, c_7n, c_25, c_25n, c_27, c_28, c_28n]; done)⟩
                · have hl : lv_has ls 13 [(5, .int (oI o1)), (8, .int (nI ((10 * zd) + k))), (7, .int (nI k)), (6, .int (nI j_26)), (0, .ref ob), (1, .int (nI zd)), (2, .long x), (4, .int pt)] := hl
                  have hj_26 : j_26 < 10 * zd + k := mo_ch_lt hI2.symm
                  refine lv_if_ge (tgt := 108) hx hb d_Model_corrected_87 (by decide) (fun c_29 => ?_) (fun c_29 => absurd (nI_pos' (by omega)) c_29)
                  refine lv_iload hx hb d_Model_corrected_108 (lv_at hl 3 rfl) ?_
                  refine lv_istore (lv' := [(6, .int (nI j_26)), (5, .int (oI o1)), (8, .int (nI ((10 * zd) + k))), (7, .int (nI k)), (0, .ref ob), (1, .int (nI zd)), (2, .long x), (4, .int pt)]) hx hb d_Model_corrected_110 hl (by decide) rfl (fun ls hl => ?_)
                  refine lv_iinc (v := nI (k + 1)) (lv' := [(7, .int (nI (k + 1))), (6, .int (nI j_26)), (5, .int (oI o1)), (8, .int (nI ((10 * zd) + k))), (0, .ref ob), (1, .int (nI zd)), (2, .long x), (4, .int pt)]) hx hb d_Model_corrected_112 hl (k := 3) rfl (nI_add k 1) (by decide) rfl (fun ls hl => ?_)
                  refine lv_goto (tgt := 43) hx hb d_Model_corrected_115 (by decide) ?_
                  refine ih43 (k + 1, o1, (some j_26)) ls (show mz - (k + 1) < mz - k by omega) ?_ (lv_sub hl [0, 2, 1, 4, 5, 6, 7] rfl)
                  first | contradiction | exact ⟨by omega, by first | (rw [mo_cb, if_pos (by assumption)]; done) | (rw [mo_cb, if_neg (by assumption), ← hI1]; done), by first | (rw [mo_ch, ← hI2]; done) | (rw [mo_ch, ← hI2]; simp [c_7, c_7n, c_25, c_25n, c_29]; done)⟩
              · have c_25n := sy_b64 c_25
                refine lv_iload hx hb d_Model_corrected_76 (lv_at hl 0 rfl) ?_
                refine lv_goto (tgt := 83) hx hb d_Model_corrected_78 (by decide) ?_
                refine lv_istore (lv' := [(5, .int (nI ((10 * zd) + k))), (8, .int (nI ((10 * zd) + k))), (7, .int (nI k)), (6, .int (oI o2)), (0, .ref ob), (1, .int (nI zd)), (2, .long x), (4, .int pt)]) hx hb d_Model_corrected_83 hl (by decide) rfl (fun ls hl => ?_)
                refine lv_iload hx hb d_Model_corrected_85 (lv_at hl 3 rfl) ?_
                rcases o2 with _ | j_30
                · have hl : lv_has ls 13 [(5, .int (nI ((10 * zd) + k))), (8, .int (nI ((10 * zd) + k))), (7, .int (nI k)), (6, .int (-1)), (0, .ref ob), (1, .int (nI zd)), (2, .long x), (4, .int pt)] := hl
                  refine lv_if_ge (tgt := 108) hx hb d_Model_corrected_87 (by decide) (fun c_31 => absurd c_31 (by decide)) (fun c_31 => ?_)
                  refine lv_aload_n hx hb d_Model_corrected_90 rfl (lv_at hl 4 rfl) ?_
                  refine va_get (D := G.1) (ci := 7) (v := .ref (ad 16)) (C := R_Model) (T := F_Model) (N := 23) hx hb ht i_Model hown hK.1 hP 0 rfl rfl 21 (by decide) (ht _ m_526) (fun _ h9 => h9) rfl d_Model_corrected_91 ?_
                  refine lv_iload hx hb d_Model_corrected_94 (lv_at hl 1 rfl) ?_
                  refine sy_iald hx hb hK.1 hP 17 0 rfl rfl (k := (10 * zd) + k) (by omega) (by decide) d_Model_corrected_96 ?_
                  refine lv_i2l (v := (mI 16 ((10 * zd) + k)).toInt64) hx hb d_Model_corrected_97 rfl ?_
                  refine lv_lload_n hx hb d_Model_corrected_98 rfl (lv_at hl 6 rfl) ?_
                  refine sy_lc_le (tgt := 108) hx hb d_Model_corrected_99 d_Model_corrected_100 (by decide) (fun c_32 => ?_) (fun c_32 => ?_)
                  · have c_32n := sy_c64 c_32
                    refine lv_iload hx hb d_Model_corrected_108 (lv_at hl 3 rfl) ?_
                    refine lv_istore (lv' := [(6, .int (-1)), (5, .int (nI ((10 * zd) + k))), (8, .int (nI ((10 * zd) + k))), (7, .int (nI k)), (0, .ref ob), (1, .int (nI zd)), (2, .long x), (4, .int pt)]) hx hb d_Model_corrected_110 hl (by decide) rfl (fun ls hl => ?_)
                    refine lv_iinc (v := nI (k + 1)) (lv' := [(7, .int (nI (k + 1))), (6, .int (-1)), (5, .int (nI ((10 * zd) + k))), (8, .int (nI ((10 * zd) + k))), (0, .ref ob), (1, .int (nI zd)), (2, .long x), (4, .int pt)]) hx hb d_Model_corrected_112 hl (k := 3) rfl (nI_add k 1) (by decide) rfl (fun ls hl => ?_)
                    refine lv_goto (tgt := 43) hx hb d_Model_corrected_115 (by decide) ?_
                    refine ih43 (k + 1, (some ((10 * zd) + k)), none) ls (show mz - (k + 1) < mz - k by omega) ?_ (lv_sub hl [0, 2, 1, 4, 5, 6, 7] rfl)
                    first | contradiction | exact ⟨by omega, by first | (rw [mo_cb, if_pos (by assumption)]; done) | (rw [mo_cb, if_neg (by assumption), ← hI1]; done), by first | (rw [mo_ch, ← hI2]; done) | (rw [mo_ch, ← hI2]; simp [c_7, c_7n, c_25, c_25n, c_31, c_32, c_32n]; done)⟩
                  · have c_32n := sy_d64 c_32
                    refine lv_iload hx hb d_Model_corrected_103 (lv_at hl 1 rfl) ?_
                    refine lv_goto (tgt := 110) hx hb d_Model_corrected_105 (by decide) ?_
                    refine lv_istore (lv' := [(6, .int (nI ((10 * zd) + k))), (5, .int (nI ((10 * zd) + k))), (8, .int (nI ((10 * zd) + k))), (7, .int (nI k)), (0, .ref ob), (1, .int (nI zd)), (2, .long x), (4, .int pt)]) hx hb d_Model_corrected_110 hl (by decide) rfl (fun ls hl => ?_)
                    refine lv_iinc (v := nI (k + 1)) (lv' := [(7, .int (nI (k + 1))), (6, .int (nI ((10 * zd) + k))), (5, .int (nI ((10 * zd) + k))), (8, .int (nI ((10 * zd) + k))), (0, .ref ob), (1, .int (nI zd)), (2, .long x), (4, .int pt)]) hx hb d_Model_corrected_112 hl (k := 3) rfl (nI_add k 1) (by decide) rfl (fun ls hl => ?_)
                    refine lv_goto (tgt := 43) hx hb d_Model_corrected_115 (by decide) ?_
                    refine ih43 (k + 1, (some ((10 * zd) + k)), (some ((10 * zd) + k))) ls (show mz - (k + 1) < mz - k by omega) ?_ (lv_sub hl [0, 2, 1, 4, 5, 6, 7] rfl)
                    first | contradiction | exact ⟨by omega, by first | (rw [mo_cb, if_pos (by assumption)]; done) | (rw [mo_cb, if_neg (by assumption), ← hI1]; done), by first | (rw [mo_ch, ← hI2]; done) | (rw [mo_ch, ← hI2]; simp [c_7, c_7n, c_25, c_25n, c_31, c_32, c_32n]; done)⟩
                · have hl : lv_has ls 13 [(5, .int (nI ((10 * zd) + k))), (8, .int (nI ((10 * zd) + k))), (7, .int (nI k)), (6, .int (nI j_30)), (0, .ref ob), (1, .int (nI zd)), (2, .long x), (4, .int pt)] := hl
                  have hj_30 : j_30 < 10 * zd + k := mo_ch_lt hI2.symm
                  refine lv_if_ge (tgt := 108) hx hb d_Model_corrected_87 (by decide) (fun c_33 => ?_) (fun c_33 => absurd (nI_pos' (by omega)) c_33)
                  refine lv_iload hx hb d_Model_corrected_108 (lv_at hl 3 rfl) ?_
                  refine lv_istore (lv' := [(6, .int (nI j_30)), (5, .int (nI ((10 * zd) + k))), (8, .int (nI ((10 * zd) + k))), (7, .int (nI k)), (0, .ref ob), (1, .int (nI zd)), (2, .long x), (4, .int pt)]) hx hb d_Model_corrected_110 hl (by decide) rfl (fun ls hl => ?_)
                  refine lv_iinc (v := nI (k + 1)) (lv' := [(7, .int (nI (k + 1))), (6, .int (nI j_30)), (5, .int (nI ((10 * zd) + k))), (8, .int (nI ((10 * zd) + k))), (0, .ref ob), (1, .int (nI zd)), (2, .long x), (4, .int pt)]) hx hb d_Model_corrected_112 hl (k := 3) rfl (nI_add k 1) (by decide) rfl (fun ls hl => ?_)
                  refine lv_goto (tgt := 43) hx hb d_Model_corrected_115 (by decide) ?_
                  refine ih43 (k + 1, (some ((10 * zd) + k)), (some j_30)) ls (show mz - (k + 1) < mz - k by omega) ?_ (lv_sub hl [0, 2, 1, 4, 5, 6, 7] rfl)
                  first | contradiction | exact ⟨by omega, by first | (rw [mo_cb, if_pos (by assumption)]; done) | (rw [mo_cb, if_neg (by assumption), ← hI1]; done), by first | (rw [mo_ch, ← hI2]; done) | (rw [mo_ch, ← hI2]; simp [c_7, c_7n, c_25, c_25n, c_33]; done)⟩
          · exact ⟨Nat.zero_le _, rfl, rfl⟩
        · have c_6n := sy_d32 c_6
          refine lv_ldc2 (v := (-9223372036854775808)) hx hb hown (ht _ m_659) d_Model_corrected_30 ?_
          exact W.lret (v := (-9223372036854775808 : Int64)) hx hb hr (fun t ht hW => ⟨(-9223372036854775808 : Int64), rfl, by first | (simp [mo_corr, c_2, hczd, emz, hcm, c_4, c_5, c_5n, c_6, c_6n]; done) | (have ek8 : mz = k := (by omega); rw [mo_corr, if_pos (by simp [c_2, hczd, emz, hcm, c_4, c_5, c_5n, c_6, c_6n]; done), hczd, emz, hcm, ek8, ← hI1, ← hI2]; first | (simp [mo_cq, mo_of, c_2, hczd, emz, hcm, c_4, c_5, c_5n, c_6, c_6n]; done) | (simp only [mo_cq]; rw [ea9, eb9, pq_lN2 ha9, pq_lN2 hb9]; first | (rw [if_pos (by assumption), ← ea9]; rfl) | (rw [if_neg (by assumption), ← eb9]; rfl))), ht⟩) (fun q h => by cases h) d_Model_corrected_33
