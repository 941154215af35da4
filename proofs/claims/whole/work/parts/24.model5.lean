set_option maxHeartbeats 4000000 in
set_option maxRecDepth 100000 in
theorem c_Model_nextNumber (l : Launch) (G : sy_G) (ob : Nat) (ad : Nat → Nat) (sc : Nat → Nat) (mI : Nat → Nat → Int32) (mL : Nat → Nat → Int64) (mZ : Nat → Nat → Bool) (z : Nat) (d : Int32) (la : Int32) (ab : Int32) (hn : sc 1 ≤ 60) (hz : z < 12) : Met l y_Model_nextNumber (sy_w y_Model_nextNumber b_Model_nextNumber 8 (some .int)) { frames := 0, cells := 0, slots := 0, locals := 0 } (va_Pc [.ref ob, .int (nI z), .int d, .int la, .int ab] (sy_KP G (va_P G.1 classes (mw G.2 ob ad sc mI mL mZ)))) (vp_Si (fun r => r = mo_nx mI mZ z d la ab (sc 1))) 0 0 (fun _ => False) := by
  refine Met.ofW (cc := b_Model_nextNumber) (maxL := 8) (ret := (some .int)) (by decide) rfl ?_
  intro p e s m args below meth c s₁ B hml hv
  obtain ⟨rfl, hP, hK⟩ := hv
  have hx := B.exec
  have hb := B.bytes
  have hr := B.returns
  have hts := atoms_spec (ws := sy_w y_Model_nextNumber b_Model_nextNumber 8 (some .int)) B.pre
  have ht : ∀ wd ∈ sy_T, wd.before ([.ref ob, .int (nI z), .int d, .int la, .int ab] : List Value).toArray s = true := fun wd h => hts wd (List.mem_cons_of_mem _ h)
  have hown : s.vm.findClass R_Model = some m.cls := findClass_of_methodNamed B.named
  have hlocks := B.notSynchronized
  have hl := lv_entry ([.ref ob, .int (nI z), .int d, .int la, .int ab]) (n := 8) (Nat.le_of_ble_eq_true rfl)
  rw [lg_entry_eq]
  generalize (lg_sl ([.ref ob, .int (nI z), .int d, .int la, .int ab]) ++ List.replicate (8 - (lg_sl ([.ref ob, .int (nI z), .int d, .int la, .int ab])).length) Slot.unset).toArray = ls at hl ⊢
  have hl : lv_has ls 8 [(0, .ref ob), (1, .int (nI z)), (2, .int d), (3, .int la), (4, .int ab)] := hl
  refine lv_iconst (v := (-1)) hx hb d_Model_nextNumber_0 (by decide) ?_
  refine lv_istore (lv' := [(5, .int (-1)), (0, .ref ob), (1, .int (nI z)), (2, .int d), (3, .int la), (4, .int ab)]) hx hb d_Model_nextNumber_1 hl (by decide) rfl (fun ls hl => ?_)
  refine lv_iconst (v := 0) hx hb d_Model_nextNumber_3 (by decide) ?_
  refine lv_istore (lv' := [(6, .int 0), (5, .int (-1)), (0, .ref ob), (1, .int (nI z)), (2, .int d), (3, .int la), (4, .int ab)]) hx hb d_Model_nextNumber_4 hl (by decide) rfl (fun ls hl => ?_)
  refine sy_loop (σ := Nat × Int32) (nL := 8) (fun x6 => match x6 with | (k, f) => sc 1 - k) (fun x6 => match x6 with | (k, f) => [(6, .int (nI k)), (5, .int f), (0, .ref ob), (1, .int (nI z)), (2, .int d), (3, .int la), (4, .int ab)]) (fun x6 => match x6 with | (k, f) => k ≤ sc 1 ∧ f = mo_nx mI mZ z d la ab k) ?_ (0, (-1 : Int32)) ?_ (lv_sub hl [0, 1, 2, 3, 4, 5, 6] rfl)
  · intro x6 ls hI hl ih6
    obtain ⟨k, f⟩ := x6
    have hl : lv_has ls 8 [(6, .int (nI k)), (5, .int f), (0, .ref ob), (1, .int (nI z)), (2, .int d), (3, .int la), (4, .int ab)] := hl
    obtain ⟨hk, hI⟩ := hI
    refine lv_iload hx hb d_Model_nextNumber_6 (lv_at hl 0 rfl) ?_
    refine lv_aload_n hx hb d_Model_nextNumber_8 rfl (lv_at hl 2 rfl) ?_
    refine va_get (D := G.1) (ci := 7) (v := .int (nI (sc 1))) (C := R_Model) (T := F_Model) (N := 23) hx hb ht i_Model hown hK.1 hP 0 rfl rfl 3 (by decide) (ht _ m_508) (fun _ h9 => h9) rfl d_Model_nextNumber_9 ?_
    refine lv_icmp_ge (tgt := 113) hx hb d_Model_nextNumber_12 (by decide) (fun c_1 => ?_) (fun c_1 => ?_)
    · have c_1 : (sc 1) ≤ k := (nI_leI (a := sc 1) (b := k) (by omega) (by omega)).mp c_1
      have c_1n : ¬ k < (sc 1) := by omega
      refine lv_iload hx hb d_Model_nextNumber_113 (lv_at hl 1 rfl) ?_
      exact W.iret (v := f) hx hb hr (fun t ht hW => ⟨f, rfl, by rw [hI, show k = sc 1 by omega], ht⟩) (fun q h => by cases h) d_Model_nextNumber_115
    · have c_1 : ¬ (sc 1) ≤ k := fun h9 => c_1 ((nI_leI (a := sc 1) (b := k) (by omega) (by omega)).mpr h9)
      have c_1n : k < (sc 1) := by omega
      refine lv_aload_n hx hb d_Model_nextNumber_15 rfl (lv_at hl 2 rfl) ?_
      refine va_get (D := G.1) (ci := 7) (v := .ref (ad 10)) (C := R_Model) (T := F_Model) (N := 23) hx hb ht i_Model hown hK.1 hP 0 rfl rfl 15 (by decide) (ht _ m_520) (fun _ h9 => h9) rfl d_Model_nextNumber_16 ?_
      refine lv_bipush (v := 60) hx hb d_Model_nextNumber_19 (by decide) ?_
      refine lv_iload_n hx hb d_Model_nextNumber_21 rfl (lv_at hl 3 rfl) ?_
      refine lv_imul hx hb d_Model_nextNumber_22 ?_
      refine sy_ti (y := nI (60 * z)) (pk_mul 60 z) ?_
      refine lv_iload hx hb d_Model_nextNumber_23 (lv_at hl 0 rfl) ?_
      refine lv_iadd hx hb d_Model_nextNumber_25 ?_
      refine sy_ti (y := nI ((60 * z) + k)) (nI_add (60 * z) k) ?_
      refine sy_zald hx hb hK.1 hP 11 2 rfl rfl (k := (60 * z) + k) (by omega) (by decide) d_Model_nextNumber_26 ?_
      refine lv_if_eq (tgt := 68) hx hb d_Model_nextNumber_27 (by decide) (fun c_2 => ?_) (fun c_2 => ?_)
      · have c_2 : (mZ 10 ((60 * z) + k)) = false := bI_f c_2
        refine lv_iconst (v := 0) hx hb d_Model_nextNumber_68 (by decide) ?_
        refine lv_istore (lv' := [(7, .int 0), (6, .int (nI k)), (5, .int f), (0, .ref ob), (1, .int (nI z)), (2, .int d), (3, .int la), (4, .int ab)]) hx hb d_Model_nextNumber_69 hl (by decide) rfl (fun ls hl => ?_)
        refine lv_iload hx hb d_Model_nextNumber_71 (lv_at hl 0 rfl) ?_
        refine lv_if_eq (tgt := 103) hx hb d_Model_nextNumber_73 (by decide) (fun c_3 => ?_) (fun c_3 => absurd (by decide) c_3)
        refine lv_iload hx hb d_Model_nextNumber_103 (lv_at hl 2 rfl) ?_
        refine lv_istore (lv' := [(5, .int f), (7, .int 0), (6, .int (nI k)), (0, .ref ob), (1, .int (nI z)), (2, .int d), (3, .int la), (4, .int ab)]) hx hb d_Model_nextNumber_105 hl (by decide) rfl (fun ls hl => ?_)
        refine lv_iinc (v := nI (k + 1)) (lv' := [(6, .int (nI (k + 1))), (5, .int f), (7, .int 0), (0, .ref ob), (1, .int (nI z)), (2, .int d), (3, .int la), (4, .int ab)]) hx hb d_Model_nextNumber_107 hl (k := 2) rfl (nI_add k 1) (by decide) rfl (fun ls hl => ?_)
        refine lv_goto (tgt := 6) hx hb d_Model_nextNumber_110 (by decide) ?_
        refine ih6 (k + 1, f) ls (show sc 1 - (k + 1) < sc 1 - k by omega) ?_ (lv_sub hl [0, 1, 3, 4, 5, 6, 7] rfl)
        exact ⟨by omega, by first | (rw [mo_nx, if_pos (by simp [← hI, c_1, c_1n, c_2, c_3]; done)]; done) | (rw [mo_nx, if_neg (by simp [← hI, c_1, c_1n, c_2, c_3]; done), ← hI])⟩
      · have c_2 : (mZ 10 ((60 * z) + k)) = true := bI_t c_2
        refine lv_aload_n hx hb d_Model_nextNumber_30 rfl (lv_at hl 2 rfl) ?_
        refine va_get (D := G.1) (ci := 7) (v := .ref (ad 2)) (C := R_Model) (T := F_Model) (N := 23) hx hb ht i_Model hown hK.1 hP 0 rfl rfl 4 (by decide) (ht _ m_509) (fun _ h9 => h9) rfl d_Model_nextNumber_31 ?_
        refine lv_iload hx hb d_Model_nextNumber_34 (lv_at hl 0 rfl) ?_
        refine sy_iald hx hb hK.1 hP 3 0 rfl rfl (k := k) (by omega) (by decide) d_Model_nextNumber_36 ?_
        refine lv_iload_n hx hb d_Model_nextNumber_37 rfl (lv_at hl 4 rfl) ?_
        refine lv_icmp_ne (tgt := 68) hx hb d_Model_nextNumber_38 (by decide) (fun c_4 => ?_) (fun c_4 => ?_)
        · refine lv_iconst (v := 0) hx hb d_Model_nextNumber_68 (by decide) ?_
          refine lv_istore (lv' := [(7, .int 0), (6, .int (nI k)), (5, .int f), (0, .ref ob), (1, .int (nI z)), (2, .int d), (3, .int la), (4, .int ab)]) hx hb d_Model_nextNumber_69 hl (by decide) rfl (fun ls hl => ?_)
          refine lv_iload hx hb d_Model_nextNumber_71 (lv_at hl 0 rfl) ?_
          refine lv_if_eq (tgt := 103) hx hb d_Model_nextNumber_73 (by decide) (fun c_5 => ?_) (fun c_5 => absurd (by decide) c_5)
          refine lv_iload hx hb d_Model_nextNumber_103 (lv_at hl 2 rfl) ?_
          refine lv_istore (lv' := [(5, .int f), (7, .int 0), (6, .int (nI k)), (0, .ref ob), (1, .int (nI z)), (2, .int d), (3, .int la), (4, .int ab)]) hx hb d_Model_nextNumber_105 hl (by decide) rfl (fun ls hl => ?_)
          refine lv_iinc (v := nI (k + 1)) (lv' := [(6, .int (nI (k + 1))), (5, .int f), (7, .int 0), (0, .ref ob), (1, .int (nI z)), (2, .int d), (3, .int la), (4, .int ab)]) hx hb d_Model_nextNumber_107 hl (k := 2) rfl (nI_add k 1) (by decide) rfl (fun ls hl => ?_)
          refine lv_goto (tgt := 6) hx hb d_Model_nextNumber_110 (by decide) ?_
          refine ih6 (k + 1, f) ls (show sc 1 - (k + 1) < sc 1 - k by omega) ?_ (lv_sub hl [0, 1, 3, 4, 5, 6, 7] rfl)
          exact ⟨by omega, by first | (rw [mo_nx, if_pos (by simp [← hI, c_1, c_1n, c_2, c_4, c_5]; done)]; done) | (rw [mo_nx, if_neg (by simp [← hI, c_1, c_1n, c_2, c_4, c_5]; done), ← hI])⟩
        · refine lv_aload_n hx hb d_Model_nextNumber_41 rfl (lv_at hl 2 rfl) ?_
          refine va_get (D := G.1) (ci := 7) (v := .ref (ad 3)) (C := R_Model) (T := F_Model) (N := 23) hx hb ht i_Model hown hK.1 hP 0 rfl rfl 5 (by decide) (ht _ m_510) (fun _ h9 => h9) rfl d_Model_nextNumber_42 ?_
          refine lv_iload hx hb d_Model_nextNumber_45 (lv_at hl 0 rfl) ?_
          refine sy_iald hx hb hK.1 hP 4 0 rfl rfl (k := k) (by omega) (by decide) d_Model_nextNumber_47 ?_
          refine lv_iload_n hx hb d_Model_nextNumber_48 rfl (lv_at hl 5 rfl) ?_
          refine lv_icmp_ne (tgt := 68) hx hb d_Model_nextNumber_49 (by decide) (fun c_6 => ?_) (fun c_6 => ?_)
          · refine lv_iconst (v := 0) hx hb d_Model_nextNumber_68 (by decide) ?_
            refine lv_istore (lv' := [(7, .int 0), (6, .int (nI k)), (5, .int f), (0, .ref ob), (1, .int (nI z)), (2, .int d), (3, .int la), (4, .int ab)]) hx hb d_Model_nextNumber_69 hl (by decide) rfl (fun ls hl => ?_)
            refine lv_iload hx hb d_Model_nextNumber_71 (lv_at hl 0 rfl) ?_
            refine lv_if_eq (tgt := 103) hx hb d_Model_nextNumber_73 (by decide) (fun c_7 => ?_) (fun c_7 => absurd (by decide) c_7)
            refine lv_iload hx hb d_Model_nextNumber_103 (lv_at hl 2 rfl) ?_
            refine lv_istore (lv' := [(5, .int f), (7, .int 0), (6, .int (nI k)), (0, .ref ob), (1, .int (nI z)), (2, .int d), (3, .int la), (4, .int ab)]) hx hb d_Model_nextNumber_105 hl (by decide) rfl (fun ls hl => ?_)
            refine lv_iinc (v := nI (k + 1)) (lv' := [(6, .int (nI (k + 1))), (5, .int f), (7, .int 0), (0, .ref ob), (1, .int (nI z)), (2, .int d), (3, .int la), (4, .int ab)]) hx hb d_Model_nextNumber_107 hl (k := 2) rfl (nI_add k 1) (by decide) rfl (fun ls hl => ?_)
            refine lv_goto (tgt := 6) hx hb d_Model_nextNumber_110 (by decide) ?_
            refine ih6 (k + 1, f) ls (show sc 1 - (k + 1) < sc 1 - k by omega) ?_ (lv_sub hl [0, 1, 3, 4, 5, 6, 7] rfl)
            exact ⟨by omega, by first | (rw [mo_nx, if_pos (by simp [← hI, c_1, c_1n, c_2, c_4, c_6, c_7]; done)]; done) | (rw [mo_nx, if_neg (by simp [← hI, c_1, c_1n, c_2, c_4, c_6, c_7]; done), ← hI])⟩
          · refine lv_aload_n hx hb d_Model_nextNumber_52 rfl (lv_at hl 2 rfl) ?_
            refine va_get (D := G.1) (ci := 7) (v := .ref (ad 4)) (C := R_Model) (T := F_Model) (N := 23) hx hb ht i_Model hown hK.1 hP 0 rfl rfl 6 (by decide) (ht _ m_511) (fun _ h9 => h9) rfl d_Model_nextNumber_53 ?_
            refine lv_iload hx hb d_Model_nextNumber_56 (lv_at hl 0 rfl) ?_
            refine sy_iald hx hb hK.1 hP 5 0 rfl rfl (k := k) (by omega) (by decide) d_Model_nextNumber_58 ?_
            refine lv_iload hx hb d_Model_nextNumber_59 (lv_at hl 6 rfl) ?_
            refine lv_icmp_le (tgt := 68) hx hb d_Model_nextNumber_61 (by decide) (fun c_8 => ?_) (fun c_8 => ?_)
            · have c_8n := sy_c32 c_8
              refine lv_iconst (v := 0) hx hb d_Model_nextNumber_68 (by decide) ?_
              refine lv_istore (lv' := [(7, .int 0), (6, .int (nI k)), (5, .int f), (0, .ref ob), (1, .int (nI z)), (2, .int d), (3, .int la), (4, .int ab)]) hx hb d_Model_nextNumber_69 hl (by decide) rfl (fun ls hl => ?_)
              refine lv_iload hx hb d_Model_nextNumber_71 (lv_at hl 0 rfl) ?_
              refine lv_if_eq (tgt := 103) hx hb d_Model_nextNumber_73 (by decide) (fun c_9 => ?_) (fun c_9 => absurd (by decide) c_9)
              refine lv_iload hx hb d_Model_nextNumber_103 (lv_at hl 2 rfl) ?_
              refine lv_istore (lv' := [(5, .int f), (7, .int 0), (6, .int (nI k)), (0, .ref ob), (1, .int (nI z)), (2, .int d), (3, .int la), (4, .int ab)]) hx hb d_Model_nextNumber_105 hl (by decide) rfl (fun ls hl => ?_)
              refine lv_iinc (v := nI (k + 1)) (lv' := [(6, .int (nI (k + 1))), (5, .int f), (7, .int 0), (0, .ref ob), (1, .int (nI z)), (2, .int d), (3, .int la), (4, .int ab)]) hx hb d_Model_nextNumber_107 hl (k := 2) rfl (nI_add k 1) (by decide) rfl (fun ls hl => ?_)
              refine lv_goto (tgt := 6) hx hb d_Model_nextNumber_110 (by decide) ?_
              refine ih6 (k + 1, f) ls (show sc 1 - (k + 1) < sc 1 - k by omega) ?_ (lv_sub hl [0, 1, 3, 4, 5, 6, 7] rfl)
              exact ⟨by omega, by first | (rw [mo_nx, if_pos (by simp [← hI, c_1, c_1n, c_2, c_4, c_6, c_8, c_8n, c_9]; done)]; done) | (rw [mo_nx, if_neg (by simp [← hI, c_1, c_1n, c_2, c_4, c_6, c_8, c_8n, c_9]; done), ← hI])⟩
            · have c_8n := sy_d32 c_8
              refine lv_iconst (v := 1) hx hb d_Model_nextNumber_64 (by decide) ?_
              refine lv_goto (tgt := 69) hx hb d_Model_nextNumber_65 (by decide) ?_
              refine lv_istore (lv' := [(7, .int 1), (6, .int (nI k)), (5, .int f), (0, .ref ob), (1, .int (nI z)), (2, .int d), (3, .int la), (4, .int ab)]) hx hb d_Model_nextNumber_69 hl (by decide) rfl (fun ls hl => ?_)
              refine lv_iload hx hb d_Model_nextNumber_71 (lv_at hl 0 rfl) ?_
              refine lv_if_eq (tgt := 103) hx hb d_Model_nextNumber_73 (by decide) (fun c_10 => absurd c_10 (by decide)) (fun c_10 => ?_)
              refine lv_iload hx hb d_Model_nextNumber_76 (lv_at hl 2 rfl) ?_
              refine lv_if_lt (tgt := 93) hx hb d_Model_nextNumber_78 (by decide) (fun c_11 => ?_) (fun c_11 => ?_)
              · have c_11n := sy_a32 c_11
                refine lv_aload_n hx hb d_Model_nextNumber_93 rfl (lv_at hl 3 rfl) ?_
                refine va_get (D := G.1) (ci := 7) (v := .ref (ad 4)) (C := R_Model) (T := F_Model) (N := 23) hx hb ht i_Model hown hK.1 hP 0 rfl rfl 6 (by decide) (ht _ m_511) (fun _ h9 => h9) rfl d_Model_nextNumber_94 ?_
                refine lv_iload hx hb d_Model_nextNumber_97 (lv_at hl 1 rfl) ?_
                refine sy_iald hx hb hK.1 hP 5 0 rfl rfl (k := k) (by omega) (by decide) d_Model_nextNumber_99 ?_
                refine lv_goto (tgt := 105) hx hb d_Model_nextNumber_100 (by decide) ?_
                refine lv_istore (lv' := [(5, .int (mI 4 k)), (7, .int 1), (6, .int (nI k)), (0, .ref ob), (1, .int (nI z)), (2, .int d), (3, .int la), (4, .int ab)]) hx hb d_Model_nextNumber_105 hl (by decide) rfl (fun ls hl => ?_)
                refine lv_iinc (v := nI (k + 1)) (lv' := [(6, .int (nI (k + 1))), (5, .int (mI 4 k)), (7, .int 1), (0, .ref ob), (1, .int (nI z)), (2, .int d), (3, .int la), (4, .int ab)]) hx hb d_Model_nextNumber_107 hl (k := 2) rfl (nI_add k 1) (by decide) rfl (fun ls hl => ?_)
                refine lv_goto (tgt := 6) hx hb d_Model_nextNumber_110 (by decide) ?_
                refine ih6 (k + 1, mI 4 k) ls (show sc 1 - (k + 1) < sc 1 - k by omega) ?_ (lv_sub hl [0, 1, 3, 4, 5, 6, 7] rfl)
                exact ⟨by omega, by first | (rw [mo_nx, if_pos (by simp [← hI, c_1, c_1n, c_2, c_4, c_6, c_8, c_8n, c_10, c_11, c_11n]; done)]; done) | (rw [mo_nx, if_neg (by simp [← hI, c_1, c_1n, c_2, c_4, c_6, c_8, c_8n, c_10, c_11, c_11n]; done), ← hI])⟩
              · have c_11n := sy_b32 c_11
                refine lv_aload_n hx hb d_Model_nextNumber_81 rfl (lv_at hl 3 rfl) ?_
                refine va_get (D := G.1) (ci := 7) (v := .ref (ad 4)) (C := R_Model) (T := F_Model) (N := 23) hx hb ht i_Model hown hK.1 hP 0 rfl rfl 6 (by decide) (ht _ m_511) (fun _ h9 => h9) rfl d_Model_nextNumber_82 ?_
                refine lv_iload hx hb d_Model_nextNumber_85 (lv_at hl 1 rfl) ?_
                refine sy_iald hx hb hK.1 hP 5 0 rfl rfl (k := k) (by omega) (by decide) d_Model_nextNumber_87 ?_
                refine lv_iload hx hb d_Model_nextNumber_88 (lv_at hl 2 rfl) ?_
                refine lv_icmp_ge (tgt := 103) hx hb d_Model_nextNumber_90 (by decide) (fun c_12 => ?_) (fun c_12 => ?_)
                · have c_12n := sy_c32 c_12
                  refine lv_iload hx hb d_Model_nextNumber_103 (lv_at hl 2 rfl) ?_
                  refine lv_istore (lv' := [(5, .int f), (7, .int 1), (6, .int (nI k)), (0, .ref ob), (1, .int (nI z)), (2, .int d), (3, .int la), (4, .int ab)]) hx hb d_Model_nextNumber_105 hl (by decide) rfl (fun ls hl => ?_)
                  refine lv_iinc (v := nI (k + 1)) (lv' := [(6, .int (nI (k + 1))), (5, .int f), (7, .int 1), (0, .ref ob), (1, .int (nI z)), (2, .int d), (3, .int la), (4, .int ab)]) hx hb d_Model_nextNumber_107 hl (k := 2) rfl (nI_add k 1) (by decide) rfl (fun ls hl => ?_)
                  refine lv_goto (tgt := 6) hx hb d_Model_nextNumber_110 (by decide) ?_
                  refine ih6 (k + 1, f) ls (show sc 1 - (k + 1) < sc 1 - k by omega) ?_ (lv_sub hl [0, 1, 3, 4, 5, 6, 7] rfl)
                  exact ⟨by omega, by first | (rw [mo_nx, if_pos (by simp [← hI, c_1, c_1n, c_2, c_4, c_6, c_8, c_8n, c_10, c_11, c_11n, c_12, c_12n]; done)]; done) | (rw [mo_nx, if_neg (by simp [← hI, c_1, c_1n, c_2, c_4, c_6, c_8, c_8n, c_10, c_11, c_11n, c_12, c_12n]; done), ← hI])⟩
                · have c_12n := sy_d32 c_12
                  refine lv_aload_n hx hb d_Model_nextNumber_93 rfl (lv_at hl 3 rfl) ?_
                  refine va_get (D := G.1) (ci := 7) (v := .ref (ad 4)) (C := R_Model) (T := F_Model) (N := 23) hx hb ht i_Model hown hK.1 hP 0 rfl rfl 6 (by decide) (ht _ m_511) (fun _ h9 => h9) rfl d_Model_nextNumber_94 ?_
                  refine lv_iload hx hb d_Model_nextNumber_97 (lv_at hl 1 rfl) ?_
                  refine sy_iald hx hb hK.1 hP 5 0 rfl rfl (k := k) (by omega) (by decide) d_Model_nextNumber_99 ?_
                  refine lv_goto (tgt := 105) hx hb d_Model_nextNumber_100 (by decide) ?_
                  refine lv_istore (lv' := [(5, .int (mI 4 k)), (7, .int 1), (6, .int (nI k)), (0, .ref ob), (1, .int (nI z)), (2, .int d), (3, .int la), (4, .int ab)]) hx hb d_Model_nextNumber_105 hl (by decide) rfl (fun ls hl => ?_)
                  refine lv_iinc (v := nI (k + 1)) (lv' := [(6, .int (nI (k + 1))), (5, .int (mI 4 k)), (7, .int 1), (0, .ref ob), (1, .int (nI z)), (2, .int d), (3, .int la), (4, .int ab)]) hx hb d_Model_nextNumber_107 hl (k := 2) rfl (nI_add k 1) (by decide) rfl (fun ls hl => ?_)
                  refine lv_goto (tgt := 6) hx hb d_Model_nextNumber_110 (by decide) ?_
                  refine ih6 (k + 1, mI 4 k) ls (show sc 1 - (k + 1) < sc 1 - k by omega) ?_ (lv_sub hl [0, 1, 3, 4, 5, 6, 7] rfl)
                  exact ⟨by omega, by first | (rw [mo_nx, if_pos (by simp [← hI, c_1, c_1n, c_2, c_4, c_6, c_8, c_8n, c_10, c_11, c_11n, c_12, c_12n]; done)]; done) | (rw [mo_nx, if_neg (by simp [← hI, c_1, c_1n, c_2, c_4, c_6, c_8, c_8n, c_10, c_11, c_11n, c_12, c_12n]; done), ← hI])⟩
  · exact ⟨Nat.zero_le _, rfl⟩
set_option maxHeartbeats 4000000 in
set_option maxRecDepth 100000 in
theorem c_Model_conflict (l : Launch) (G : sy_G) (ob : Nat) (ad : Nat → Nat) (sc : Nat → Nat) (mI : Nat → Nat → Int32) (mL : Nat → Nat → Int64) (mZ : Nat → Nat → Bool) (d : Int32) (pk : Int32) (wt : Int32) (hn : sc 1 ≤ 60) (hs : sc 3 ≤ 6) : Met l y_Model_conflict (sy_w y_Model_conflict b_Model_conflict 7 (some .int)) { frames := 3, cells := 0, slots := 0, locals := 69 } (va_Pc [.ref ob, .int d, .int pk, .int wt] (sy_KP G (va_P G.1 classes (mw G.2 ob ad sc mI mL mZ)))) (vp_Si (fun r => r = mo_conf sc mI mL mZ d pk wt)) 0 0 (fun _ => False) := by
  refine Met.ofW (cc := b_Model_conflict) (maxL := 7) (ret := (some .int)) (by decide) rfl ?_
  intro p e s m args below meth c s₁ B hml hv
  obtain ⟨rfl, hP, hK⟩ := hv
  have hx := B.exec
  have hb := B.bytes
  have hr := B.returns
  have hts := atoms_spec (ws := sy_w y_Model_conflict b_Model_conflict 7 (some .int)) B.pre
  have ht : ∀ wd ∈ sy_T, wd.before ([.ref ob, .int d, .int pk, .int wt] : List Value).toArray s = true := fun wd h => hts wd (List.mem_cons_of_mem _ h)
  have hown : s.vm.findClass R_Model = some m.cls := findClass_of_methodNamed B.named
  have hlocks := B.notSynchronized
  have hl := lv_entry ([.ref ob, .int d, .int pk, .int wt]) (n := 7) (Nat.le_of_ble_eq_true rfl)
  rw [lg_entry_eq]
  generalize (lg_sl ([.ref ob, .int d, .int pk, .int wt]) ++ List.replicate (7 - (lg_sl ([.ref ob, .int d, .int pk, .int wt])).length) Slot.unset).toArray = ls at hl ⊢
  have hl : lv_has ls 7 [(0, .ref ob), (1, .int d), (2, .int pk), (3, .int wt)] := hl
  refine lv_iconst (v := 0) hx hb d_Model_conflict_0 (by decide) ?_
  refine lv_istore (lv' := [(4, .int 0), (0, .ref ob), (1, .int d), (2, .int pk), (3, .int wt)]) hx hb d_Model_conflict_1 hl (by decide) rfl (fun ls hl => ?_)
  refine sy_loop (σ := Nat) (nL := 7) (fun k => sc 1 - k) (fun k => [(4, .int (nI k)), (0, .ref ob), (1, .int d), (2, .int pk), (3, .int wt)]) (fun k => k ≤ sc 1 ∧ nn_ff (mo_xp sc mI mL mZ d pk) k = none) ?_ 0 ?_ (lv_sub hl [0, 1, 2, 3, 4] rfl)
  · intro k ls hI hl ih3
    have hl : lv_has ls 7 [(4, .int (nI k)), (0, .ref ob), (1, .int d), (2, .int pk), (3, .int wt)] := hl
    obtain ⟨hk, hI⟩ := hI
    refine lv_iload hx hb d_Model_conflict_3 (lv_at hl 0 rfl) ?_
    refine lv_aload_n hx hb d_Model_conflict_5 rfl (lv_at hl 1 rfl) ?_
    refine va_get (D := G.1) (ci := 7) (v := .int (nI (sc 1))) (C := R_Model) (T := F_Model) (N := 23) hx hb ht i_Model hown hK.1 hP 0 rfl rfl 3 (by decide) (ht _ m_508) (fun _ h9 => h9) rfl d_Model_conflict_6 ?_
    refine lv_icmp_ge (tgt := 155) hx hb d_Model_conflict_9 (by decide) (fun c_1 => ?_) (fun c_1 => ?_)
    · have c_1 : (sc 1) ≤ k := (nI_leI (a := sc 1) (b := k) (by omega) (by omega)).mp c_1
      have c_1n : ¬ k < (sc 1) := by omega
      refine lv_iconst (v := (-1)) hx hb d_Model_conflict_155 (by decide) ?_
      exact W.iret (v := (-1 : Int32)) hx hb hr (fun t ht hW => ⟨(-1 : Int32), rfl, by first | (rw [mo_conf, nn_ff_no]; all_goals first | rfl | (intro i hi; simp [mo_xp, c_1, c_1n]; done)) | (have e : k = sc 1 := (by omega); rw [e] at hI; rw [mo_conf, hI]; rfl) | (have hb9 : nn_ct (mo_xb mI mL mZ (sc 1) zd k) (sc 1) = b := (by rw [hJ, show q = sc 1 by omega]); have e : nn_ff (mo_xp sc mI mL mZ (nI zd) pk) (sc 1) = some k := nn_ff_of (by omega) hI (by simp [mo_xp, hb9, c_1, c_1n]; done); rw [mo_conf, e]; simp [mo_part, c_1, c_1n]; done), ht⟩) (fun q h => by cases h) d_Model_conflict_156
    · have c_1 : ¬ (sc 1) ≤ k := fun h9 => c_1 ((nI_leI (a := sc 1) (b := k) (by omega) (by omega)).mpr h9)
      have c_1n : k < (sc 1) := by omega
      refine lv_aload_n hx hb d_Model_conflict_12 rfl (lv_at hl 1 rfl) ?_
      refine lv_iload_n hx hb d_Model_conflict_13 rfl (lv_at hl 2 rfl) ?_
      refine vp_callSi (va_Run.run (sy_runV (As := [.int d]) (rest := []) (b := ob) ⟨hx, hb, hml, hown, ht⟩ cl_Model_96 (c_Model_isSet l G ob ad sc mI mL mZ d (by omega)) hK hP (va_recv hK.1 hP (ci := 7) (q0 := 0) rfl rfl) rfl nm_Model_isSet rfl rfl ⟨Nat.le_of_ble_eq_true rfl, Nat.le_of_ble_eq_true rfl⟩ hl.1 (Nat.le_of_ble_eq_true rfl) d_Model_conflict_14 ⟨Nat.zero_le _, Nat.zero_le _⟩)) (fun r_2 hr_2 => ?_)
      subst hr_2
      refine lv_if_eq (tgt := 155) hx hb d_Model_conflict_17 (by decide) (fun c_3 => ?_) (fun c_3 => ?_)
      · have c_3 : (mo_ok (sc 3) d) = false := bI_f c_3
        refine lv_iconst (v := (-1)) hx hb d_Model_conflict_155 (by decide) ?_
        exact W.iret (v := (-1 : Int32)) hx hb hr (fun t ht hW => ⟨(-1 : Int32), rfl, by first | (rw [mo_conf, nn_ff_no]; all_goals first | rfl | (intro i hi; simp [mo_xp, c_1, c_1n, c_3]; done)) | (have e : k = sc 1 := (by omega); rw [e] at hI; rw [mo_conf, hI]; rfl) | (have hb9 : nn_ct (mo_xb mI mL mZ (sc 1) zd k) (sc 1) = b := (by rw [hJ, show q = sc 1 by omega]); have e : nn_ff (mo_xp sc mI mL mZ (nI zd) pk) (sc 1) = some k := nn_ff_of (by omega) hI (by simp [mo_xp, hb9, c_1, c_1n, c_3]; done); rw [mo_conf, e]; simp [mo_part, c_1, c_1n, c_3]; done), ht⟩) (fun q h => by cases h) d_Model_conflict_156
      · have c_3 : (mo_ok (sc 3) d) = true := bI_t c_3
        obtain ⟨zd, hzd, ezd⟩ := mo_ix (by omega) c_3
        subst ezd
        have hczd : (nI zd).toNatClampNeg = zd := nI_clamp (by omega)
        refine lv_aload_n hx hb d_Model_conflict_20 rfl (lv_at hl 1 rfl) ?_
        refine lv_iload_n hx hb d_Model_conflict_21 rfl (lv_at hl 2 rfl) ?_
        refine lv_iload hx hb d_Model_conflict_22 (lv_at hl 0 rfl) ?_
        refine vp_callSi (va_Run.run (sy_runV (As := [.int (nI zd), .int (nI k)]) (rest := []) (b := ob) ⟨hx, hb, hml, hown, ht⟩ cl_Model_133 (c_Model_isConflict l G ob ad sc mI mL mZ zd k (by omega) (by omega) (by omega)) hK hP (va_recv hK.1 hP (ci := 7) (q0 := 0) rfl rfl) rfl nm_Model_isConflict rfl rfl ⟨Nat.le_of_ble_eq_true rfl, Nat.le_of_ble_eq_true rfl⟩ hl.1 (Nat.le_of_ble_eq_true rfl) d_Model_conflict_24 ⟨Nat.zero_le _, Nat.zero_le _⟩)) (fun r_4 hr_4 => ?_)
        subst hr_4
        refine lv_if_eq (tgt := 149) hx hb d_Model_conflict_27 (by decide) (fun c_5 => ?_) (fun c_5 => ?_)
        · have c_5 : (mo_cf mI mL mZ (sc 1) zd k) = false := bI_f c_5
          refine lv_iinc (v := nI (k + 1)) (lv' := [(4, .int (nI (k + 1))), (0, .ref ob), (1, .int (nI zd)), (2, .int pk), (3, .int wt)]) hx hb d_Model_conflict_149 hl (k := 0) rfl (nI_add k 1) (by decide) rfl (fun ls hl => ?_)
          refine lv_goto (tgt := 3) hx hb d_Model_conflict_152 (by decide) ?_
          refine ih3 (k + 1) ls (show sc 1 - (k + 1) < sc 1 - k by omega) ?_ (lv_sub hl [0, 1, 2, 3, 4] rfl)
          exact ⟨by omega, by first | (simp [nn_ff, hI, mo_xp, c_1, c_1n, c_3, hczd, c_5]; done) | (have hb9 : nn_ct (mo_xb mI mL mZ (sc 1) zd k) (sc 1) = b := (by rw [hJ, show q = sc 1 by omega]); simp [nn_ff, hI, mo_xp, hb9, c_1, c_1n, c_3, hczd, c_5]; done)⟩
        · have c_5 : (mo_cf mI mL mZ (sc 1) zd k) = true := bI_t c_5
          refine lv_iconst (v := 0) hx hb d_Model_conflict_30 (by decide) ?_
          refine lv_istore (lv' := [(5, .int 0), (4, .int (nI k)), (0, .ref ob), (1, .int (nI zd)), (2, .int pk), (3, .int wt)]) hx hb d_Model_conflict_31 hl (by decide) rfl (fun ls hl => ?_)
          refine lv_iconst (v := 0) hx hb d_Model_conflict_33 (by decide) ?_
          refine lv_istore (lv' := [(6, .int 0), (5, .int 0), (4, .int (nI k)), (0, .ref ob), (1, .int (nI zd)), (2, .int pk), (3, .int wt)]) hx hb d_Model_conflict_34 hl (by decide) rfl (fun ls hl => ?_)
          refine sy_loop (σ := Nat × Nat) (nL := 7) (fun x36 => match x36 with | (q, b) => sc 1 - q) (fun x36 => match x36 with | (q, b) => [(6, .int (nI q)), (5, .int (nI b)), (4, .int (nI k)), (0, .ref ob), (1, .int (nI zd)), (2, .int pk), (3, .int wt)]) (fun x36 => match x36 with | (q, b) => q ≤ sc 1 ∧ b = nn_ct (mo_xb mI mL mZ (sc 1) zd k) q) ?_ (0, 0) ?_ (lv_sub hl [0, 1, 2, 3, 4, 5, 6] rfl)
          · intro x36 ls hI hl ih36
            obtain ⟨q, b⟩ := x36
            have hl : lv_has ls 7 [(6, .int (nI q)), (5, .int (nI b)), (4, .int (nI k)), (0, .ref ob), (1, .int (nI zd)), (2, .int pk), (3, .int wt)] := hl
            obtain ⟨hq, hJ⟩ := hI
            refine lv_iload hx hb d_Model_conflict_36 (lv_at hl 0 rfl) ?_
            refine lv_aload_n hx hb d_Model_conflict_38 rfl (lv_at hl 3 rfl) ?_
            refine va_get (D := G.1) (ci := 7) (v := .int (nI (sc 1))) (C := R_Model) (T := F_Model) (N := 23) hx hb ht i_Model hown hK.1 hP 0 rfl rfl 3 (by decide) (ht _ m_508) (fun _ h9 => h9) rfl d_Model_conflict_39 ?_
            refine lv_icmp_ge (tgt := 82) hx hb d_Model_conflict_42 (by decide) (fun c_6 => ?_) (fun c_6 => ?_)
            · have c_6 : (sc 1) ≤ q := (nI_leI (a := sc 1) (b := q) (by omega) (by omega)).mp c_6
              have c_6n : ¬ q < (sc 1) := by omega
              refine lv_iload hx hb d_Model_conflict_82 (lv_at hl 1 rfl) ?_
              refine lv_iload_n hx hb d_Model_conflict_84 rfl (lv_at hl 5 rfl) ?_
              refine lv_icmp_ne (tgt := 149) hx hb d_Model_conflict_85 (by decide) (fun c_7 => ?_) (fun c_7 => ?_)
              · refine lv_iinc (v := nI (k + 1)) (lv' := [(4, .int (nI (k + 1))), (6, .int (nI q)), (5, .int (nI b)), (0, .ref ob), (1, .int (nI zd)), (2, .int pk), (3, .int wt)]) hx hb d_Model_conflict_149 hl (k := 2) rfl (nI_add k 1) (by decide) rfl (fun ls hl => ?_)
                refine lv_goto (tgt := 3) hx hb d_Model_conflict_152 (by decide) ?_
                refine ih3 (k + 1) ls (show sc 1 - (k + 1) < sc 1 - k by omega) ?_ (lv_sub hl [0, 3, 4, 5, 6] rfl)
                exact ⟨by omega, by first | (simp [nn_ff, hI, mo_xp, c_1, c_1n, c_3, hczd, c_5, c_6, c_6n, c_7]; done) | (have hb9 : nn_ct (mo_xb mI mL mZ (sc 1) zd k) (sc 1) = b := (by rw [hJ, show q = sc 1 by omega]); simp [nn_ff, hI, mo_xp, hb9, c_1, c_1n, c_3, hczd, c_5, c_6, c_6n, c_7]; done)⟩
              · refine lv_iload_n hx hb d_Model_conflict_88 rfl (lv_at hl 6 rfl) ?_
                refine lv_if_ne (tgt := 102) hx hb d_Model_conflict_89 (by decide) (fun c_8 => ?_) (fun c_8 => ?_)
                · refine lv_iload_n hx hb d_Model_conflict_102 rfl (lv_at hl 6 rfl) ?_
                  refine lv_iconst (v := 1) hx hb d_Model_conflict_103 (by decide) ?_
                  refine lv_icmp_ne (tgt := 117) hx hb d_Model_conflict_104 (by decide) (fun c_9 => ?_) (fun c_9 => ?_)
                  · refine lv_iload_n hx hb d_Model_conflict_117 rfl (lv_at hl 6 rfl) ?_
                    refine lv_iconst (v := 2) hx hb d_Model_conflict_118 (by decide) ?_
                    refine lv_icmp_ne (tgt := 132) hx hb d_Model_conflict_119 (by decide) (fun c_10 => ?_) (fun c_10 => ?_)
                    · refine lv_iload_n hx hb d_Model_conflict_132 rfl (lv_at hl 6 rfl) ?_
                      refine lv_iconst (v := 3) hx hb d_Model_conflict_133 (by decide) ?_
                      refine lv_icmp_ne (tgt := 147) hx hb d_Model_conflict_134 (by decide) (fun c_11 => ?_) (fun c_11 => ?_)
                      · refine lv_iconst (v := (-1)) hx hb d_Model_conflict_147 (by decide) ?_
                        exact W.iret (v := (-1 : Int32)) hx hb hr (fun t ht hW => ⟨(-1 : Int32), rfl, by first | (rw [mo_conf, nn_ff_no]; all_goals first | rfl | (intro i hi; simp [mo_xp, c_1, c_1n, c_3, hczd, c_5, c_6, c_6n, c_7, c_8, c_9, c_10, c_11]; done)) | (have e : k = sc 1 := (by omega); rw [e] at hI; rw [mo_conf, hI]; rfl) | (have hb9 : nn_ct (mo_xb mI mL mZ (sc 1) zd k) (sc 1) = b := (by rw [hJ, show q = sc 1 by omega]); have e : nn_ff (mo_xp sc mI mL mZ (nI zd) pk) (sc 1) = some k := nn_ff_of (by omega) hI (by simp [mo_xp, hb9, c_1, c_1n, c_3, hczd, c_5, c_6, c_6n, c_7, c_8, c_9, c_10, c_11]; done); rw [mo_conf, e]; simp [mo_part, c_6, c_6n, c_7, c_8, c_9, c_10, c_11]; done), ht⟩) (fun q h => by cases h) d_Model_conflict_148
                      · refine lv_aload_n hx hb d_Model_conflict_137 rfl (lv_at hl 3 rfl) ?_
                        refine va_get (D := G.1) (ci := 7) (v := .ref (ad 5)) (C := R_Model) (T := F_Model) (N := 23) hx hb ht i_Model hown hK.1 hP 0 rfl rfl 7 (by decide) (ht _ m_512) (fun _ h9 => h9) rfl d_Model_conflict_138 ?_
                        refine lv_iload hx hb d_Model_conflict_141 (lv_at hl 2 rfl) ?_
                        refine sy_iald hx hb hK.1 hP 6 0 rfl rfl (k := k) (by omega) (by decide) d_Model_conflict_143 ?_
                        refine lv_goto (tgt := 148) hx hb d_Model_conflict_144 (by decide) ?_
                        exact W.iret (v := mI 5 k) hx hb hr (fun t ht hW => ⟨mI 5 k, rfl, by first | (rw [mo_conf, nn_ff_no]; all_goals first | rfl | (intro i hi; simp [mo_xp, c_1, c_1n, c_3, hczd, c_5, c_6, c_6n, c_7, c_8, c_9, c_10, c_11]; done)) | (have e : k = sc 1 := (by omega); rw [e] at hI; rw [mo_conf, hI]; rfl) | (have hb9 : nn_ct (mo_xb mI mL mZ (sc 1) zd k) (sc 1) = b := (by rw [hJ, show q = sc 1 by omega]); have e : nn_ff (mo_xp sc mI mL mZ (nI zd) pk) (sc 1) = some k := nn_ff_of (by omega) hI (by simp [mo_xp, hb9, c_1, c_1n, c_3, hczd, c_5, c_6, c_6n, c_7, c_8, c_9, c_10, c_11]; done); rw [mo_conf, e]; simp [mo_part, c_6, c_6n, c_7, c_8, c_9, c_10, c_11]; done), ht⟩) (fun q h => by cases h) d_Model_conflict_148
                    · refine lv_aload_n hx hb d_Model_conflict_122 rfl (lv_at hl 3 rfl) ?_
                      refine va_get (D := G.1) (ci := 7) (v := .ref (ad 4)) (C := R_Model) (T := F_Model) (N := 23) hx hb ht i_Model hown hK.1 hP 0 rfl rfl 6 (by decide) (ht _ m_511) (fun _ h9 => h9) rfl d_Model_conflict_123 ?_
                      refine lv_iload hx hb d_Model_conflict_126 (lv_at hl 2 rfl) ?_
                      refine sy_iald hx hb hK.1 hP 5 0 rfl rfl (k := k) (by omega) (by decide) d_Model_conflict_128 ?_
                      refine lv_goto (tgt := 148) hx hb d_Model_conflict_129 (by decide) ?_
                      exact W.iret (v := mI 4 k) hx hb hr (fun t ht hW => ⟨mI 4 k, rfl, by first | (rw [mo_conf, nn_ff_no]; all_goals first | rfl | (intro i hi; simp [mo_xp, c_1, c_1n, c_3, hczd, c_5, c_6, c_6n, c_7, c_8, c_9, c_10]; done)) | (have e : k = sc 1 := (by omega); rw [e] at hI; rw [mo_conf, hI]; rfl) | (have hb9 : nn_ct (mo_xb mI mL mZ (sc 1) zd k) (sc 1) = b := (by rw [hJ, show q = sc 1 by omega]); have e : nn_ff (mo_xp sc mI mL mZ (nI zd) pk) (sc 1) = some k := nn_ff_of (by omega) hI (by simp [mo_xp, hb9, c_1, c_1n, c_3, hczd, c_5, c_6, c_6n, c_7, c_8, c_9, c_10]; done); rw [mo_conf, e]; simp [mo_part, c_6, c_6n, c_7, c_8, c_9, c_10]; done), ht⟩) (fun q h => by cases h) d_Model_conflict_148
                  · refine lv_aload_n hx hb d_Model_conflict_107 rfl (lv_at hl 3 rfl) ?_
                    refine va_get (D := G.1) (ci := 7) (v := .ref (ad 3)) (C := R_Model) (T := F_Model) (N := 23) hx hb ht i_Model hown hK.1 hP 0 rfl rfl 5 (by decide) (ht _ m_510) (fun _ h9 => h9) rfl d_Model_conflict_108 ?_
                    refine lv_iload hx hb d_Model_conflict_111 (lv_at hl 2 rfl) ?_
                    refine sy_iald hx hb hK.1 hP 4 0 rfl rfl (k := k) (by omega) (by decide) d_Model_conflict_113 ?_
                    refine lv_goto (tgt := 148) hx hb d_Model_conflict_114 (by decide) ?_
                    exact W.iret (v := mI 3 k) hx hb hr (fun t ht hW => ⟨mI 3 k, rfl, by first | (rw [mo_conf, nn_ff_no]; all_goals first | rfl | (intro i hi; simp [mo_xp, c_1, c_1n, c_3, hczd, c_5, c_6, c_6n, c_7, c_8, c_9]; done)) | (have e : k = sc 1 := (by omega); rw [e] at hI; rw [mo_conf, hI]; rfl) | (have hb9 : nn_ct (mo_xb mI mL mZ (sc 1) zd k) (sc 1) = b := (by rw [hJ, show q = sc 1 by omega]); have e : nn_ff (mo_xp sc mI mL mZ (nI zd) pk) (sc 1) = some k := nn_ff_of (by omega) hI (by simp [mo_xp, hb9, c_1, c_1n, c_3, hczd, c_5, c_6, c_6n, c_7, c_8, c_9]; done); rw [mo_conf, e]; simp [mo_part, c_6, c_6n, c_7, c_8, c_9]; done), ht⟩) (fun q h => by cases h) d_Model_conflict_148
                · refine lv_aload_n hx hb d_Model_conflict_92 rfl (lv_at hl 3 rfl) ?_
                  refine va_get (D := G.1) (ci := 7) (v := .ref (ad 2)) (C := R_Model) (T := F_Model) (N := 23) hx hb ht i_Model hown hK.1 hP 0 rfl rfl 4 (by decide) (ht _ m_509) (fun _ h9 => h9) rfl d_Model_conflict_93 ?_
                  refine lv_iload hx hb d_Model_conflict_96 (lv_at hl 2 rfl) ?_
                  refine sy_iald hx hb hK.1 hP 3 0 rfl rfl (k := k) (by omega) (by decide) d_Model_conflict_98 ?_
                  refine lv_goto (tgt := 148) hx hb d_Model_conflict_99 (by decide) ?_
                  exact W.iret (v := mI 2 k) hx hb hr (fun t ht hW => ⟨mI 2 k, rfl, by first | (rw [mo_conf, nn_ff_no]; all_goals first | rfl | (intro i hi; simp [mo_xp, c_1, c_1n, c_3, hczd, c_5, c_6, c_6n, c_7, c_8]; done)) | (have e : k = sc 1 := (by omega); rw [e] at hI; rw [mo_conf, hI]; rfl) | (have hb9 : nn_ct (mo_xb mI mL mZ (sc 1) zd k) (sc 1) = b := (by rw [hJ, show q = sc 1 by omega]); have e : nn_ff (mo_xp sc mI mL mZ (nI zd) pk) (sc 1) = some k := nn_ff_of (by omega) hI (by simp [mo_xp, hb9, c_1, c_1n, c_3, hczd, c_5, c_6, c_6n, c_7, c_8]; done); rw [mo_conf, e]; simp [mo_part, c_6, c_6n, c_7, c_8]; done), ht⟩) (fun q h => by cases h) d_Model_conflict_148
            · have c_6 : ¬ (sc 1) ≤ q := fun h9 => c_6 ((nI_leI (a := sc 1) (b := q) (by omega) (by omega)).mpr h9)
              have c_6n : q < (sc 1) := by omega
              refine lv_iload hx hb d_Model_conflict_45 (lv_at hl 1 rfl) ?_
              refine lv_aload_n hx hb d_Model_conflict_47 rfl (lv_at hl 3 rfl) ?_
              refine lv_iload_n hx hb d_Model_conflict_48 rfl (lv_at hl 4 rfl) ?_
              refine lv_iload hx hb d_Model_conflict_49 (lv_at hl 0 rfl) ?_
              refine vp_callSi (va_Run.run (sy_runV (As := [.int (nI zd), .int (nI q)]) (rest := [.int (nI b)]) (b := ob) ⟨hx, hb, hml, hown, ht⟩ cl_Model_133 (c_Model_isConflict l G ob ad sc mI mL mZ zd q (by omega) (by omega) (by omega)) hK hP (va_recv hK.1 hP (ci := 7) (q0 := 0) rfl rfl) rfl nm_Model_isConflict rfl rfl ⟨Nat.le_of_ble_eq_true rfl, Nat.le_of_ble_eq_true rfl⟩ hl.1 (Nat.le_of_ble_eq_true rfl) d_Model_conflict_51 ⟨Nat.zero_le _, Nat.zero_le _⟩)) (fun r_12 hr_12 => ?_)
              subst hr_12
              refine lv_if_eq (tgt := 72) hx hb d_Model_conflict_54 (by decide) (fun c_13 => ?_) (fun c_13 => ?_)
              · have c_13 : (mo_cf mI mL mZ (sc 1) zd q) = false := bI_f c_13
                refine lv_iconst (v := 0) hx hb d_Model_conflict_72 (by decide) ?_
                refine lv_iadd hx hb d_Model_conflict_73 ?_
                refine sy_ti (y := nI (b + 0)) (nI_add b 0) ?_
                refine lv_istore (lv' := [(5, .int (nI (b + 0))), (6, .int (nI q)), (4, .int (nI k)), (0, .ref ob), (1, .int (nI zd)), (2, .int pk), (3, .int wt)]) hx hb d_Model_conflict_74 hl (by decide) rfl (fun ls hl => ?_)
                refine lv_iinc (v := nI (q + 1)) (lv' := [(6, .int (nI (q + 1))), (5, .int (nI (b + 0))), (4, .int (nI k)), (0, .ref ob), (1, .int (nI zd)), (2, .int pk), (3, .int wt)]) hx hb d_Model_conflict_76 hl (k := 1) rfl (nI_add q 1) (by decide) rfl (fun ls hl => ?_)
                refine lv_goto (tgt := 36) hx hb d_Model_conflict_79 (by decide) ?_
                refine ih36 (q + 1, b + 0) ls (show sc 1 - (q + 1) < sc 1 - q by omega) ?_ (lv_sub hl [0, 1, 2, 3, 4, 5, 6] rfl)
                exact ⟨by omega, by first | (rw [nn_ct, if_pos (by simp [mo_xb, c_6, c_6n, c_13]; done), ← hJ]; done) | (rw [nn_ct, if_neg (by simp [mo_xb, c_6, c_6n, c_13]; done), ← hJ]; try rfl)⟩
              · have c_13 : (mo_cf mI mL mZ (sc 1) zd q) = true := bI_t c_13
                refine lv_aload_n hx hb d_Model_conflict_57 rfl (lv_at hl 3 rfl) ?_
                refine lv_iload hx hb d_Model_conflict_58 (lv_at hl 0 rfl) ?_
                refine lv_iload hx hb d_Model_conflict_60 (lv_at hl 2 rfl) ?_
                refine vp_callSi (va_Run.run (sy_runV (As := [.int (nI q), .int (nI k)]) (rest := [.int (nI b)]) (b := ob) ⟨hx, hb, hml, hown, ht⟩ cl_Model_136 (c_Model_isKeyBefore l G ob ad sc mI mL mZ q k (by omega) (by omega)) hK hP (va_recv hK.1 hP (ci := 7) (q0 := 0) rfl rfl) rfl nm_Model_isKeyBefore rfl rfl ⟨Nat.le_of_ble_eq_true rfl, Nat.le_of_ble_eq_true rfl⟩ hl.1 (Nat.le_of_ble_eq_true rfl) d_Model_conflict_62 ⟨Nat.zero_le _, Nat.zero_le _⟩)) (fun r_14 hr_14 => ?_)
                subst hr_14
                refine lv_if_eq (tgt := 72) hx hb d_Model_conflict_65 (by decide) (fun c_15 => ?_) (fun c_15 => ?_)
                · have c_15 : (mo_kb mI q k) = false := bI_f c_15
                  refine lv_iconst (v := 0) hx hb d_Model_conflict_72 (by decide) ?_
                  refine lv_iadd hx hb d_Model_conflict_73 ?_
                  refine sy_ti (y := nI (b + 0)) (nI_add b 0) ?_
                  refine lv_istore (lv' := [(5, .int (nI (b + 0))), (6, .int (nI q)), (4, .int (nI k)), (0, .ref ob), (1, .int (nI zd)), (2, .int pk), (3, .int wt)]) hx hb d_Model_conflict_74 hl (by decide) rfl (fun ls hl => ?_)
                  refine lv_iinc (v := nI (q + 1)) (lv' := [(6, .int (nI (q + 1))), (5, .int (nI (b + 0))), (4, .int (nI k)), (0, .ref ob), (1, .int (nI zd)), (2, .int pk), (3, .int wt)]) hx hb d_Model_conflict_76 hl (k := 1) rfl (nI_add q 1) (by decide) rfl (fun ls hl => ?_)
                  refine lv_goto (tgt := 36) hx hb d_Model_conflict_79 (by decide) ?_
                  refine ih36 (q + 1, b + 0) ls (show sc 1 - (q + 1) < sc 1 - q by omega) ?_ (lv_sub hl [0, 1, 2, 3, 4, 5, 6] rfl)
                  exact ⟨by omega, by first | (rw [nn_ct, if_pos (by simp [mo_xb, c_6, c_6n, c_13, c_15]; done), ← hJ]; done) | (rw [nn_ct, if_neg (by simp [mo_xb, c_6, c_6n, c_13, c_15]; done), ← hJ]; try rfl)⟩
                · have c_15 : (mo_kb mI q k) = true := bI_t c_15
                  refine lv_iconst (v := 1) hx hb d_Model_conflict_68 (by decide) ?_
                  refine lv_goto (tgt := 73) hx hb d_Model_conflict_69 (by decide) ?_
                  refine lv_iadd hx hb d_Model_conflict_73 ?_
                  refine sy_ti (y := nI (b + 1)) (nI_add b 1) ?_
                  refine lv_istore (lv' := [(5, .int (nI (b + 1))), (6, .int (nI q)), (4, .int (nI k)), (0, .ref ob), (1, .int (nI zd)), (2, .int pk), (3, .int wt)]) hx hb d_Model_conflict_74 hl (by decide) rfl (fun ls hl => ?_)
                  refine lv_iinc (v := nI (q + 1)) (lv' := [(6, .int (nI (q + 1))), (5, .int (nI (b + 1))), (4, .int (nI k)), (0, .ref ob), (1, .int (nI zd)), (2, .int pk), (3, .int wt)]) hx hb d_Model_conflict_76 hl (k := 1) rfl (nI_add q 1) (by decide) rfl (fun ls hl => ?_)
                  refine lv_goto (tgt := 36) hx hb d_Model_conflict_79 (by decide) ?_
                  refine ih36 (q + 1, b + 1) ls (show sc 1 - (q + 1) < sc 1 - q by omega) ?_ (lv_sub hl [0, 1, 2, 3, 4, 5, 6] rfl)
                  exact ⟨by omega, by first | (rw [nn_ct, if_pos (by simp [mo_xb, c_6, c_6n, c_13, c_15]; done), ← hJ]; done) | (rw [nn_ct, if_neg (by simp [mo_xb, c_6, c_6n, c_13, c_15]; done), ← hJ]; try rfl)⟩
          · exact ⟨Nat.zero_le _, rfl⟩
  · exact ⟨Nat.zero_le _, rfl⟩
set_option maxHeartbeats 4000000 in
set_option maxRecDepth 100000 in
theorem c_Model_known (l : Launch) (G : sy_G) (ob : Nat) (ad : Nat → Nat) (sc : Nat → Nat) (mI : Nat → Nat → Int32) (mL : Nat → Nat → Int64) (mZ : Nat → Nat → Bool) (d : Int32) (dv : Int32) (kd : Int32) (se : Int64) (wh : Int64) (hn : sc 1 ≤ 60) (hs : sc 3 ≤ 6) (hc : sc 2 ≤ 20) : Met l y_Model_known (sy_w y_Model_known b_Model_known 13 (some .long)) { frames := 3, cells := 0, slots := 0, locals := 69 } (va_Pc [.ref ob, .int d, .int dv, .int kd, .long se, .long wh] (sy_KP G (va_P G.1 classes (mw G.2 ob ad sc mI mL mZ)))) (vp_Sl (fun r => r = mo_known sc mI mL mZ d dv kd se wh)) 0 0 (fun _ => False) := by
  refine Met.ofW (cc := b_Model_known) (maxL := 13) (ret := (some .long)) (by decide) rfl ?_
  intro p e s m args below meth c s₁ B hml hv
  obtain ⟨rfl, hP, hK⟩ := hv
  have hx := B.exec
  have hb := B.bytes
  have hr := B.returns
  have hts := atoms_spec (ws := sy_w y_Model_known b_Model_known 13 (some .long)) B.pre
  have ht : ∀ wd ∈ sy_T, wd.before ([.ref ob, .int d, .int dv, .int kd, .long se, .long wh] : List Value).toArray s = true := fun wd h => hts wd (List.mem_cons_of_mem _ h)
  have hown : s.vm.findClass R_Model = some m.cls := findClass_of_methodNamed B.named
  have hlocks := B.notSynchronized
  have hl := lv_entry ([.ref ob, .int d, .int dv, .int kd, .long se, .long wh]) (n := 13) (Nat.le_of_ble_eq_true rfl)
  rw [lg_entry_eq]
  generalize (lg_sl ([.ref ob, .int d, .int dv, .int kd, .long se, .long wh]) ++ List.replicate (13 - (lg_sl ([.ref ob, .int d, .int dv, .int kd, .long se, .long wh])).length) Slot.unset).toArray = ls at hl ⊢
  have hl : lv_has ls 13 [(0, .ref ob), (1, .int d), (2, .int dv), (3, .int kd), (4, .long se), (6, .long wh)] := hl
  refine lv_iconst (v := (-1)) hx hb d_Model_known_0 (by decide) ?_
  refine lv_istore (lv' := [(8, .int (-1)), (0, .ref ob), (1, .int d), (2, .int dv), (3, .int kd), (4, .long se), (6, .long wh)]) hx hb d_Model_known_1 hl (by decide) rfl (fun ls hl => ?_)
  refine lv_iconst (v := 0) hx hb d_Model_known_3 (by decide) ?_
  refine lv_istore (lv' := [(9, .int 0), (8, .int (-1)), (0, .ref ob), (1, .int d), (2, .int dv), (3, .int kd), (4, .long se), (6, .long wh)]) hx hb d_Model_known_4 hl (by decide) rfl (fun ls hl => ?_)
  refine sy_loop (σ := Nat × Option Nat) (nL := 13) (fun x6 => match x6 with | (k, o) => sc 1 - k) (fun x6 => match x6 with | (k, o) => [(9, .int (nI k)), (8, .int (oI o)), (0, .ref ob), (1, .int d), (2, .int dv), (3, .int kd), (4, .long se), (6, .long wh)]) (fun x6 => match x6 with | (k, o) => k ≤ sc 1 ∧ o = nn_fm (mo_kp sc mI mL mZ d dv kd se wh) (mo_lt mI) k) ?_ (0, none) ?_ (lv_sub hl [0, 1, 2, 3, 4, 5, 6, 7] rfl)
  · intro x6 ls hI hl ih6
    obtain ⟨k, o⟩ := x6
    have hl : lv_has ls 13 [(9, .int (nI k)), (8, .int (oI o)), (0, .ref ob), (1, .int d), (2, .int dv), (3, .int kd), (4, .long se), (6, .long wh)] := hl
    obtain ⟨hk, hI⟩ := hI
    refine lv_iload hx hb d_Model_known_6 (lv_at hl 0 rfl) ?_
    refine lv_aload_n hx hb d_Model_known_8 rfl (lv_at hl 2 rfl) ?_
    refine va_get (D := G.1) (ci := 7) (v := .int (nI (sc 1))) (C := R_Model) (T := F_Model) (N := 23) hx hb ht i_Model hown hK.1 hP 0 rfl rfl 3 (by decide) (ht _ m_508) (fun _ h9 => h9) rfl d_Model_known_9 ?_
    refine lv_icmp_ge (tgt := 126) hx hb d_Model_known_12 (by decide) (fun c_1 => ?_) (fun c_1 => ?_)
    · have c_1 : (sc 1) ≤ k := (nI_leI (a := sc 1) (b := k) (by omega) (by omega)).mp c_1
      have c_1n : ¬ k < (sc 1) := by omega
      refine lv_iload hx hb d_Model_known_126 (lv_at hl 1 rfl) ?_
      rcases o with _ | j_2
      · have hl : lv_has ls 13 [(9, .int (nI k)), (8, .int (-1)), (0, .ref ob), (1, .int d), (2, .int dv), (3, .int kd), (4, .long se), (6, .long wh)] := hl
        refine lv_if_ge (tgt := 135) hx hb d_Model_known_128 (by decide) (fun c_3 => absurd c_3 (by decide)) (fun c_3 => ?_)
        refine lv_ldc2 (v := (-9223372036854775808)) hx hb hown (ht _ m_659) d_Model_known_131 ?_
        exact W.lret (v := (-9223372036854775808 : Int64)) hx hb hr (fun t ht hW => ⟨(-9223372036854775808 : Int64), rfl, by first | (rw [mo_known, show sc 1 = k by omega, ← hI]; rfl) | (rw [mo_known, hczd, show sc 1 = k by omega, ← hI]; simp only [mo_kv]; rw [show sc 2 = q by omega, ← hJ]; rfl), ht⟩) (fun q h => by cases h) d_Model_known_134
      · have hl : lv_has ls 13 [(9, .int (nI k)), (8, .int (nI j_2)), (0, .ref ob), (1, .int d), (2, .int dv), (3, .int kd), (4, .long se), (6, .long wh)] := hl
        have hj_2 : j_2 < k := nn_fm_lt hI.symm
        refine lv_if_ge (tgt := 135) hx hb d_Model_known_128 (by decide) (fun c_4 => ?_) (fun c_4 => absurd (nI_pos' (by omega)) c_4)
        have hset : mo_ok (sc 3) d = true := (by have h9 := nn_fm_p hI.symm; simp only [mo_kp, Bool.and_eq_true] at h9; exact h9.1)
        obtain ⟨zd, hzd, ezd⟩ := mo_ix (by omega) hset
        subst ezd
        have hczd : (nI zd).toNatClampNeg = zd := nI_clamp (by omega)
        obtain ⟨jf, hjf⟩ : ∃ z9, z9 = j_2 := ⟨_, rfl⟩
        rw [← hjf] at hl hI
        have hjl : jf < k := by omega
        refine lv_iconst (v := (-1)) hx hb d_Model_known_135 (by decide) ?_
        refine lv_istore (lv' := [(9, .int (-1)), (8, .int (nI jf)), (0, .ref ob), (1, .int (nI zd)), (2, .int dv), (3, .int kd), (4, .long se), (6, .long wh)]) hx hb d_Model_known_136 hl (by decide) rfl (fun ls hl => ?_)
        refine lv_iconst (v := 0) hx hb d_Model_known_138 (by decide) ?_
        refine lv_istore (lv' := [(10, .int 0), (9, .int (-1)), (8, .int (nI jf)), (0, .ref ob), (1, .int (nI zd)), (2, .int dv), (3, .int kd), (4, .long se), (6, .long wh)]) hx hb d_Model_known_139 hl (by decide) rfl (fun ls hl => ?_)
        refine sy_loop (σ := Nat × Option Nat) (nL := 13) (fun x141 => match x141 with | (q, o2) => sc 2 - q) (fun x141 => match x141 with | (q, o2) => [(10, .int (nI q)), (9, .int (oI o2)), (8, .int (nI jf)), (0, .ref ob), (1, .int (nI zd)), (2, .int dv), (3, .int kd), (6, .long wh)]) (fun x141 => match x141 with | (q, o2) => q ≤ sc 2 ∧ o2 = nn_fm (mo_fp mL mZ zd dv kd (mI 6 jf).toInt64 wh) (mo_fl mL) q) ?_ (0, none) ?_ (lv_sub hl [0, 1, 2, 3, 4, 5, 6, 8] rfl)
        · intro x141 ls hI hl ih141
          obtain ⟨q, o2⟩ := x141
          have hl : lv_has ls 13 [(10, .int (nI q)), (9, .int (oI o2)), (8, .int (nI jf)), (0, .ref ob), (1, .int (nI zd)), (2, .int dv), (3, .int kd), (6, .long wh)] := hl
          obtain ⟨hq, hJ⟩ := hI
          refine lv_iload hx hb d_Model_known_141 (lv_at hl 0 rfl) ?_
          refine lv_aload_n hx hb d_Model_known_143 rfl (lv_at hl 3 rfl) ?_
          refine va_get (D := G.1) (ci := 7) (v := .int (nI (sc 2))) (C := R_Model) (T := F_Model) (N := 23) hx hb ht i_Model hown hK.1 hP 0 rfl rfl 11 (by decide) (ht _ m_516) (fun _ h9 => h9) rfl d_Model_known_144 ?_
          refine lv_icmp_ge (tgt := 359) hx hb d_Model_known_147 (by decide) (fun c_5 => ?_) (fun c_5 => ?_)
          · have c_5 : (sc 2) ≤ q := (nI_leI (a := sc 2) (b := q) (by omega) (by omega)).mp c_5
            have c_5n : ¬ q < (sc 2) := by omega
            refine lv_iload hx hb d_Model_known_359 (lv_at hl 1 rfl) ?_
            rcases o2 with _ | j_6
            · have hl : lv_has ls 13 [(10, .int (nI q)), (9, .int (-1)), (8, .int (nI jf)), (0, .ref ob), (1, .int (nI zd)), (2, .int dv), (3, .int kd), (6, .long wh)] := hl
              refine lv_if_ge (tgt := 374) hx hb d_Model_known_361 (by decide) (fun c_7 => absurd c_7 (by decide)) (fun c_7 => ?_)
              refine lv_aload_n hx hb d_Model_known_364 rfl (lv_at hl 3 rfl) ?_
              refine va_get (D := G.1) (ci := 7) (v := .ref (ad 7)) (C := R_Model) (T := F_Model) (N := 23) hx hb ht i_Model hown hK.1 hP 0 rfl rfl 9 (by decide) (ht _ m_514) (fun _ h9 => h9) rfl d_Model_known_365 ?_
              refine lv_iload hx hb d_Model_known_368 (lv_at hl 2 rfl) ?_
              refine sy_lald hx hb hK.1 hP 8 1 rfl rfl (k := jf) (by omega) (by decide) d_Model_known_370 ?_
              refine lv_goto (tgt := 385) hx hb d_Model_known_371 (by decide) ?_
              exact W.lret (v := mL 7 jf) hx hb hr (fun t ht hW => ⟨mL 7 jf, rfl, by first | (rw [mo_known, show sc 1 = k by omega, ← hI]; rfl) | (rw [mo_known, hczd, show sc 1 = k by omega, ← hI]; simp only [mo_kv]; rw [show sc 2 = q by omega, ← hJ]; rfl), ht⟩) (fun q h => by cases h) d_Model_known_385
            · have hl : lv_has ls 13 [(10, .int (nI q)), (9, .int (nI j_6)), (8, .int (nI jf)), (0, .ref ob), (1, .int (nI zd)), (2, .int dv), (3, .int kd), (6, .long wh)] := hl
              have hj_6 : j_6 < q := nn_fm_lt hJ.symm
              refine lv_if_ge (tgt := 374) hx hb d_Model_known_361 (by decide) (fun c_8 => ?_) (fun c_8 => absurd (nI_pos' (by omega)) c_8)
              refine lv_aload_n hx hb d_Model_known_374 rfl (lv_at hl 3 rfl) ?_
              refine va_get (D := G.1) (ci := 7) (v := .ref (ad 9)) (C := R_Model) (T := F_Model) (N := 23) hx hb ht i_Model hown hK.1 hP 0 rfl rfl 12 (by decide) (ht _ m_517) (fun _ h9 => h9) rfl d_Model_known_375 ?_
              refine lv_iconst (v := 5) hx hb d_Model_known_378 (by decide) ?_
              refine lv_iload hx hb d_Model_known_379 (lv_at hl 1 rfl) ?_
              refine lv_imul hx hb d_Model_known_381 ?_
              refine sy_ti (y := nI (5 * j_6)) (pk_mul 5 j_6) ?_
              refine lv_iconst (v := 3) hx hb d_Model_known_382 (by decide) ?_
              refine lv_iadd hx hb d_Model_known_383 ?_
              refine sy_ti (y := nI ((5 * j_6) + 3)) (nI_add (5 * j_6) 3) ?_
              refine sy_lald hx hb hK.1 hP 10 1 rfl rfl (k := (5 * j_6) + 3) (by omega) (by decide) d_Model_known_384 ?_
              exact W.lret (v := mL 9 ((5 * j_6) + 3)) hx hb hr (fun t ht hW => ⟨mL 9 ((5 * j_6) + 3), rfl, by first | (rw [mo_known, show sc 1 = k by omega, ← hI]; rfl) | (rw [mo_known, hczd, show sc 1 = k by omega, ← hI]; simp only [mo_kv]; rw [show sc 2 = q by omega, ← hJ]; rfl), ht⟩) (fun q h => by cases h) d_Model_known_385
          · have c_5 : ¬ (sc 2) ≤ q := fun h9 => c_5 ((nI_leI (a := sc 2) (b := q) (by omega) (by omega)).mpr h9)
            have c_5n : q < (sc 2) := by omega
            refine sy_cut (σ := Bool) (nL := 13) (pc2 := 242) (fun b242 => [(10, .int (nI q)), (9, .int (oI o2)), (8, .int (nI jf)), (0, .ref ob), (1, .int (nI zd)), (2, .int dv), (3, .int kd), (6, .long wh)]) (fun b242 => [.int (bI b242)]) (fun b242 => b242 = mo_fp mL mZ zd dv kd (mI 6 jf).toInt64 wh q) ?_ ?_
            · intro b242 ls hI242 hl
              have hl : lv_has ls 13 [(10, .int (nI q)), (9, .int (oI o2)), (8, .int (nI jf)), (0, .ref ob), (1, .int (nI zd)), (2, .int dv), (3, .int kd), (6, .long wh)] := hl
              have e242 := hI242
              refine lv_istore (lv' := [(11, .int (bI b242)), (10, .int (nI q)), (9, .int (oI o2)), (8, .int (nI jf)), (0, .ref ob), (1, .int (nI zd)), (2, .int dv), (3, .int kd), (6, .long wh)]) hx hb d_Model_known_242 hl (by decide) rfl (fun ls hl => ?_)
              refine sy_cut (σ := Bool) (nL := 13) (pc2 := 332) (fun b332 => [(11, .int (bI b242)), (10, .int (nI q)), (9, .int (oI o2)), (8, .int (nI jf)), (0, .ref ob), (1, .int (nI zd)), (2, .int dv), (3, .int kd), (6, .long wh)]) (fun b332 => [.int (bI b332)]) (fun b332 => b332 = mo_lo mL q o2) ?_ ?_
              · intro b332 ls hI332 hl
                have hl : lv_has ls 13 [(11, .int (bI b242)), (10, .int (nI q)), (9, .int (oI o2)), (8, .int (nI jf)), (0, .ref ob), (1, .int (nI zd)), (2, .int dv), (3, .int kd), (6, .long wh)] := hl
                have e332 := hI332
                refine lv_istore (lv' := [(12, .int (bI b332)), (11, .int (bI b242)), (10, .int (nI q)), (9, .int (oI o2)), (8, .int (nI jf)), (0, .ref ob), (1, .int (nI zd)), (2, .int dv), (3, .int kd), (6, .long wh)]) hx hb d_Model_known_332 hl (by decide) rfl (fun ls hl => ?_)
                refine lv_iload hx hb d_Model_known_334 (lv_at hl 1 rfl) ?_
                refine lv_if_eq (tgt := 349) hx hb d_Model_known_336 (by decide) (fun c_9 => ?_) (fun c_9 => ?_)
                · have c_9 : b242 = false := bI_f c_9
                  refine lv_iload hx hb d_Model_known_349 (lv_at hl 3 rfl) ?_
                  refine lv_istore (lv' := [(9, .int (oI o2)), (12, .int (bI b332)), (11, .int (bI b242)), (10, .int (nI q)), (8, .int (nI jf)), (0, .ref ob), (1, .int (nI zd)), (2, .int dv), (3, .int kd), (6, .long wh)]) hx hb d_Model_known_351 hl (by decide) rfl (fun ls hl => ?_)
                  refine lv_iinc (v := nI (q + 1)) (lv' := [(10, .int (nI (q + 1))), (9, .int (oI o2)), (12, .int (bI b332)), (11, .int (bI b242)), (8, .int (nI jf)), (0, .ref ob), (1, .int (nI zd)), (2, .int dv), (3, .int kd), (6, .long wh)]) hx hb d_Model_known_353 hl (k := 3) rfl (nI_add q 1) (by decide) rfl (fun ls hl => ?_)
                  refine lv_goto (tgt := 141) hx hb d_Model_known_356 (by decide) ?_
                  refine ih141 (q + 1, o2) ls (show sc 2 - (q + 1) < sc 2 - q by omega) ?_ (lv_sub hl [0, 1, 4, 5, 6, 7, 8, 9] rfl)
                  exact ⟨by omega, by first | (rw [nn_fm, if_pos (by rw [← e242]; simp [c_5, c_5n, c_9]; done), ← hJ, mo_up, ← e332]; simp [c_5, c_5n, c_9]; done) | (rw [nn_fm, if_neg (by rw [← e242]; simp [c_5, c_5n, c_9]; done), ← hJ]; done)⟩
                · have c_9 : b242 = true := bI_t c_9
                  refine lv_iload hx hb d_Model_known_339 (lv_at hl 0 rfl) ?_
                  refine lv_if_eq (tgt := 349) hx hb d_Model_known_341 (by decide) (fun c_10 => ?_) (fun c_10 => ?_)
                  · have c_10 : b332 = false := bI_f c_10
                    refine lv_iload hx hb d_Model_known_349 (lv_at hl 3 rfl) ?_
                    refine lv_istore (lv' := [(9, .int (oI o2)), (12, .int (bI b332)), (11, .int (bI b242)), (10, .int (nI q)), (8, .int (nI jf)), (0, .ref ob), (1, .int (nI zd)), (2, .int dv), (3, .int kd), (6, .long wh)]) hx hb d_Model_known_351 hl (by decide) rfl (fun ls hl => ?_)
                    refine lv_iinc (v := nI (q + 1)) (lv' := [(10, .int (nI (q + 1))), (9, .int (oI o2)), (12, .int (bI b332)), (11, .int (bI b242)), (8, .int (nI jf)), (0, .ref ob), (1, .int (nI zd)), (2, .int dv), (3, .int kd), (6, .long wh)]) hx hb d_Model_known_353 hl (k := 3) rfl (nI_add q 1) (by decide) rfl (fun ls hl => ?_)
                    refine lv_goto (tgt := 141) hx hb d_Model_known_356 (by decide) ?_
                    refine ih141 (q + 1, o2) ls (show sc 2 - (q + 1) < sc 2 - q by omega) ?_ (lv_sub hl [0, 1, 4, 5, 6, 7, 8, 9] rfl)
                    exact ⟨by omega, by first | (rw [nn_fm, if_pos (by rw [← e242]; simp [c_5, c_5n, c_9, c_10]; done), ← hJ, mo_up, ← e332]; simp [c_5, c_5n, c_9, c_10]; done) | (rw [nn_fm, if_neg (by rw [← e242]; simp [c_5, c_5n, c_9, c_10]; done), ← hJ]; done)⟩
                  · have c_10 : b332 = true := bI_t c_10
                    refine lv_iload hx hb d_Model_known_344 (lv_at hl 2 rfl) ?_
                    refine lv_goto (tgt := 351) hx hb d_Model_known_346 (by decide) ?_
                    refine lv_istore (lv' := [(9, .int (nI q)), (12, .int (bI b332)), (11, .int (bI b242)), (10, .int (nI q)), (8, .int (nI jf)), (0, .ref ob), (1, .int (nI zd)), (2, .int dv), (3, .int kd), (6, .long wh)]) hx hb d_Model_known_351 hl (by decide) rfl (fun ls hl => ?_)
                    refine lv_iinc (v := nI (q + 1)) (lv' := [(10, .int (nI (q + 1))), (9, .int (nI q)), (12, .int (bI b332)), (11, .int (bI b242)), (8, .int (nI jf)), (0, .ref ob), (1, .int (nI zd)), (2, .int dv), (3, .int kd), (6, .long wh)]) hx hb d_Model_known_353 hl (k := 3) rfl (nI_add q 1) (by decide) rfl (fun ls hl => ?_)
                    refine lv_goto (tgt := 141) hx hb d_Model_known_356 (by decide) ?_
                    refine ih141 (q + 1, (some q)) ls (show sc 2 - (q + 1) < sc 2 - q by omega) ?_ (lv_sub hl [0, 1, 4, 5, 6, 7, 8, 9] rfl)
                    exact ⟨by omega, by first | (rw [nn_fm, if_pos (by rw [← e242]; simp [c_5, c_5n, c_9, c_10]; done), ← hJ, mo_up, ← e332]; simp [c_5, c_5n, c_9, c_10]; done) | (rw [nn_fm, if_neg (by rw [← e242]; simp [c_5, c_5n, c_9, c_10]; done), ← hJ]; done)⟩
              · intro cut332
                refine lv_iload hx hb d_Model_known_244 (lv_at hl 2 rfl) ?_
                rcases o2 with _ | j_11
                · have hl : lv_has ls 13 [(11, .int (bI b242)), (10, .int (nI q)), (9, .int (-1)), (8, .int (nI jf)), (0, .ref ob), (1, .int (nI zd)), (2, .int dv), (3, .int kd), (6, .long wh)] := hl
                  refine lv_if_lt (tgt := 327) hx hb d_Model_known_246 (by decide) (fun c_12 => ?_) (fun c_12 => absurd (by decide) c_12)
                  refine lv_iconst (v := 1) hx hb d_Model_known_327 (by decide) ?_
                  refine lv_goto (tgt := 332) hx hb d_Model_known_328 (by decide) ?_
                  refine cut332 true ls ?_ (lv_sub hl [0, 1, 2, 3, 4, 5, 6, 7, 8] rfl)
                  simp [mo_lo, mo_fl, c_5, c_5n, c_12]
                · have hl : lv_has ls 13 [(11, .int (bI b242)), (10, .int (nI q)), (9, .int (nI j_11)), (8, .int (nI jf)), (0, .ref ob), (1, .int (nI zd)), (2, .int dv), (3, .int kd), (6, .long wh)] := hl
                  have hj_11 : j_11 < q := nn_fm_lt hJ.symm
                  refine lv_if_lt (tgt := 327) hx hb d_Model_known_246 (by decide) (fun c_13 => absurd c_13 (nI_pos (by omega))) (fun c_13 => ?_)
                  refine lv_aload_n hx hb d_Model_known_249 rfl (lv_at hl 4 rfl) ?_
                  refine va_get (D := G.1) (ci := 7) (v := .ref (ad 9)) (C := R_Model) (T := F_Model) (N := 23) hx hb ht i_Model hown hK.1 hP 0 rfl rfl 12 (by decide) (ht _ m_517) (fun _ h9 => h9) rfl d_Model_known_250 ?_
                  refine lv_iconst (v := 5) hx hb d_Model_known_253 (by decide) ?_
                  refine lv_iload hx hb d_Model_known_254 (lv_at hl 1 rfl) ?_
                  refine lv_imul hx hb d_Model_known_256 ?_
                  refine sy_ti (y := nI (5 * q)) (pk_mul 5 q) ?_
                  refine lv_iconst (v := 4) hx hb d_Model_known_257 (by decide) ?_
                  refine lv_iadd hx hb d_Model_known_258 ?_
                  refine sy_ti (y := nI ((5 * q) + 4)) (nI_add (5 * q) 4) ?_
                  refine sy_lald hx hb hK.1 hP 10 1 rfl rfl (k := (5 * q) + 4) (by omega) (by decide) d_Model_known_259 ?_
                  refine lv_aload_n hx hb d_Model_known_260 rfl (lv_at hl 4 rfl) ?_
                  refine va_get (D := G.1) (ci := 7) (v := .ref (ad 9)) (C := R_Model) (T := F_Model) (N := 23) hx hb ht i_Model hown hK.1 hP 0 rfl rfl 12 (by decide) (ht _ m_517) (fun _ h9 => h9) rfl d_Model_known_261 ?_
                  refine lv_iconst (v := 5) hx hb d_Model_known_264 (by decide) ?_
                  refine lv_iload hx hb d_Model_known_265 (lv_at hl 2 rfl) ?_
                  refine lv_imul hx hb d_Model_known_267 ?_
                  refine sy_ti (y := nI (5 * j_11)) (pk_mul 5 j_11) ?_
                  refine lv_iconst (v := 4) hx hb d_Model_known_268 (by decide) ?_
                  refine lv_iadd hx hb d_Model_known_269 ?_
                  refine sy_ti (y := nI ((5 * j_11) + 4)) (nI_add (5 * j_11) 4) ?_
                  refine sy_lald hx hb hK.1 hP 10 1 rfl rfl (k := (5 * j_11) + 4) (by omega) (by decide) d_Model_known_270 ?_
                  refine sy_lc_gt (tgt := 327) hx hb d_Model_known_271 d_Model_known_272 (by decide) (fun c_14 => ?_) (fun c_14 => ?_)
                  · have c_14n := sy_a64 c_14
                    refine lv_iconst (v := 1) hx hb d_Model_known_327 (by decide) ?_
                    refine lv_goto (tgt := 332) hx hb d_Model_known_328 (by decide) ?_
                    refine cut332 true ls ?_ (lv_sub hl [0, 1, 2, 3, 4, 5, 6, 7, 8] rfl)
                    simp [mo_lo, mo_fl, c_5, c_5n, c_13, c_14, c_14n]
                  · have c_14n := sy_b64 c_14
                    refine lv_aload_n hx hb d_Model_known_275 rfl (lv_at hl 4 rfl) ?_
                    refine va_get (D := G.1) (ci := 7) (v := .ref (ad 9)) (C := R_Model) (T := F_Model) (N := 23) hx hb ht i_Model hown hK.1 hP 0 rfl rfl 12 (by decide) (ht _ m_517) (fun _ h9 => h9) rfl d_Model_known_276 ?_
                    refine lv_iconst (v := 5) hx hb d_Model_known_279 (by decide) ?_
                    refine lv_iload hx hb d_Model_known_280 (lv_at hl 1 rfl) ?_
                    refine lv_imul hx hb d_Model_known_282 ?_
                    refine sy_ti (y := nI (5 * q)) (pk_mul 5 q) ?_
                    refine lv_iconst (v := 4) hx hb d_Model_known_283 (by decide) ?_
                    refine lv_iadd hx hb d_Model_known_284 ?_
                    refine sy_ti (y := nI ((5 * q) + 4)) (nI_add (5 * q) 4) ?_
                    refine sy_lald hx hb hK.1 hP 10 1 rfl rfl (k := (5 * q) + 4) (by omega) (by decide) d_Model_known_285 ?_
                    refine lv_aload_n hx hb d_Model_known_286 rfl (lv_at hl 4 rfl) ?_
                    refine va_get (D := G.1) (ci := 7) (v := .ref (ad 9)) (C := R_Model) (T := F_Model) (N := 23) hx hb ht i_Model hown hK.1 hP 0 rfl rfl 12 (by decide) (ht _ m_517) (fun _ h9 => h9) rfl d_Model_known_287 ?_
                    refine lv_iconst (v := 5) hx hb d_Model_known_290 (by decide) ?_
                    refine lv_iload hx hb d_Model_known_291 (lv_at hl 2 rfl) ?_
                    refine lv_imul hx hb d_Model_known_293 ?_
                    refine sy_ti (y := nI (5 * j_11)) (pk_mul 5 j_11) ?_
                    refine lv_iconst (v := 4) hx hb d_Model_known_294 (by decide) ?_
                    refine lv_iadd hx hb d_Model_known_295 ?_
                    refine sy_ti (y := nI ((5 * j_11) + 4)) (nI_add (5 * j_11) 4) ?_
                    refine sy_lald hx hb hK.1 hP 10 1 rfl rfl (k := (5 * j_11) + 4) (by omega) (by decide) d_Model_known_296 ?_
                    refine sy_lc_ne (tgt := 331) hx hb d_Model_known_297 d_Model_known_298 (by decide) (fun c_15 => ?_) (fun c_15 => ?_)
                    · refine lv_iconst (v := 0) hx hb d_Model_known_331 (by decide) ?_
                      refine cut332 false ls ?_ (lv_sub hl [0, 1, 2, 3, 4, 5, 6, 7, 8] rfl)
                      simp [mo_lo, mo_fl, c_5, c_5n, c_13, c_14, c_14n, c_15]
                    · refine lv_aload_n hx hb d_Model_known_301 rfl (lv_at hl 4 rfl) ?_
                      refine va_get (D := G.1) (ci := 7) (v := .ref (ad 9)) (C := R_Model) (T := F_Model) (N := 23) hx hb ht i_Model hown hK.1 hP 0 rfl rfl 12 (by decide) (ht _ m_517) (fun _ h9 => h9) rfl d_Model_known_302 ?_
                      refine lv_iconst (v := 5) hx hb d_Model_known_305 (by decide) ?_
                      refine lv_iload hx hb d_Model_known_306 (lv_at hl 1 rfl) ?_
                      refine lv_imul hx hb d_Model_known_308 ?_
                      refine sy_ti (y := nI (5 * q)) (pk_mul 5 q) ?_
                      refine lv_iconst (v := 3) hx hb d_Model_known_309 (by decide) ?_
                      refine lv_iadd hx hb d_Model_known_310 ?_
                      refine sy_ti (y := nI ((5 * q) + 3)) (nI_add (5 * q) 3) ?_
                      refine sy_lald hx hb hK.1 hP 10 1 rfl rfl (k := (5 * q) + 3) (by omega) (by decide) d_Model_known_311 ?_
                      refine lv_aload_n hx hb d_Model_known_312 rfl (lv_at hl 4 rfl) ?_
                      refine va_get (D := G.1) (ci := 7) (v := .ref (ad 9)) (C := R_Model) (T := F_Model) (N := 23) hx hb ht i_Model hown hK.1 hP 0 rfl rfl 12 (by decide) (ht _ m_517) (fun _ h9 => h9) rfl d_Model_known_313 ?_
                      refine lv_iconst (v := 5) hx hb d_Model_known_316 (by decide) ?_
                      refine lv_iload hx hb d_Model_known_317 (lv_at hl 2 rfl) ?_
                      refine lv_imul hx hb d_Model_known_319 ?_
                      refine sy_ti (y := nI (5 * j_11)) (pk_mul 5 j_11) ?_
                      refine lv_iconst (v := 3) hx hb d_Model_known_320 (by decide) ?_
                      refine lv_iadd hx hb d_Model_known_321 ?_
                      refine sy_ti (y := nI ((5 * j_11) + 3)) (nI_add (5 * j_11) 3) ?_
                      refine sy_lald hx hb hK.1 hP 10 1 rfl rfl (k := (5 * j_11) + 3) (by omega) (by decide) d_Model_known_322 ?_
                      refine sy_lc_le (tgt := 331) hx hb d_Model_known_323 d_Model_known_324 (by decide) (fun c_16 => ?_) (fun c_16 => ?_)
                      · have c_16n := sy_c64 c_16
                        refine lv_iconst (v := 0) hx hb d_Model_known_331 (by decide) ?_
                        refine cut332 false ls ?_ (lv_sub hl [0, 1, 2, 3, 4, 5, 6, 7, 8] rfl)
                        simp [mo_lo, mo_fl, c_5, c_5n, c_13, c_14, c_14n, c_15, c_16, c_16n]
                      · have c_16n := sy_d64 c_16
                        refine lv_iconst (v := 1) hx hb d_Model_known_327 (by decide) ?_
                        refine lv_goto (tgt := 332) hx hb d_Model_known_328 (by decide) ?_
                        refine cut332 true ls ?_ (lv_sub hl [0, 1, 2, 3, 4, 5, 6, 7, 8] rfl)
                        simp [mo_lo, mo_fl, c_5, c_5n, c_13, c_14, c_14n, c_15, c_16, c_16n]
            · intro cut242
              refine lv_aload_n hx hb d_Model_known_150 rfl (lv_at hl 3 rfl) ?_
              refine va_get (D := G.1) (ci := 7) (v := .ref (ad 12)) (C := R_Model) (T := F_Model) (N := 23) hx hb ht i_Model hown hK.1 hP 0 rfl rfl 17 (by decide) (ht _ m_522) (fun _ h9 => h9) rfl d_Model_known_151 ?_
              refine lv_bipush (v := 20) hx hb d_Model_known_154 (by decide) ?_
              refine lv_iload_n hx hb d_Model_known_156 rfl (lv_at hl 4 rfl) ?_
              refine lv_imul hx hb d_Model_known_157 ?_
              refine sy_ti (y := nI (20 * zd)) (pk_mul 20 zd) ?_
              refine lv_iload hx hb d_Model_known_158 (lv_at hl 0 rfl) ?_
              refine lv_iadd hx hb d_Model_known_160 ?_
              refine sy_ti (y := nI ((20 * zd) + q)) (nI_add (20 * zd) q) ?_
              refine sy_zald hx hb hK.1 hP 13 2 rfl rfl (k := (20 * zd) + q) (by omega) (by decide) d_Model_known_161 ?_
              refine lv_if_eq (tgt := 241) hx hb d_Model_known_162 (by decide) (fun c_17 => ?_) (fun c_17 => ?_)
              · have c_17 : (mZ 12 ((20 * zd) + q)) = false := bI_f c_17
                refine lv_iconst (v := 0) hx hb d_Model_known_241 (by decide) ?_
                refine cut242 false ls ?_ (lv_sub hl [0, 1, 2, 3, 4, 5, 6, 7] rfl)
                simp [mo_fp, c_5, c_5n, c_17]
              · have c_17 : (mZ 12 ((20 * zd) + q)) = true := bI_t c_17
                refine lv_aload_n hx hb d_Model_known_165 rfl (lv_at hl 3 rfl) ?_
                refine va_get (D := G.1) (ci := 7) (v := .ref (ad 9)) (C := R_Model) (T := F_Model) (N := 23) hx hb ht i_Model hown hK.1 hP 0 rfl rfl 12 (by decide) (ht _ m_517) (fun _ h9 => h9) rfl d_Model_known_166 ?_
                refine lv_iconst (v := 5) hx hb d_Model_known_169 (by decide) ?_
                refine lv_iload hx hb d_Model_known_170 (lv_at hl 0 rfl) ?_
                refine lv_imul hx hb d_Model_known_172 ?_
                refine sy_ti (y := nI (5 * q)) (pk_mul 5 q) ?_
                refine sy_lald hx hb hK.1 hP 10 1 rfl rfl (k := 5 * q) (by omega) (by decide) d_Model_known_173 ?_
                refine lv_iload_n hx hb d_Model_known_174 rfl (lv_at hl 5 rfl) ?_
                refine lv_i2l (v := dv.toInt64) hx hb d_Model_known_175 rfl ?_
                refine sy_lc_ne (tgt := 241) hx hb d_Model_known_176 d_Model_known_177 (by decide) (fun c_18 => ?_) (fun c_18 => ?_)
                · refine lv_iconst (v := 0) hx hb d_Model_known_241 (by decide) ?_
                  refine cut242 false ls ?_ (lv_sub hl [0, 1, 2, 3, 4, 5, 6, 7] rfl)
                  simp [mo_fp, c_5, c_5n, c_17, c_18]
                · refine lv_aload_n hx hb d_Model_known_180 rfl (lv_at hl 3 rfl) ?_
                  refine va_get (D := G.1) (ci := 7) (v := .ref (ad 9)) (C := R_Model) (T := F_Model) (N := 23) hx hb ht i_Model hown hK.1 hP 0 rfl rfl 12 (by decide) (ht _ m_517) (fun _ h9 => h9) rfl d_Model_known_181 ?_
                  refine lv_iconst (v := 5) hx hb d_Model_known_184 (by decide) ?_
                  refine lv_iload hx hb d_Model_known_185 (lv_at hl 0 rfl) ?_
                  refine lv_imul hx hb d_Model_known_187 ?_
                  refine sy_ti (y := nI (5 * q)) (pk_mul 5 q) ?_
                  refine lv_iconst (v := 1) hx hb d_Model_known_188 (by decide) ?_
                  refine lv_iadd hx hb d_Model_known_189 ?_
                  refine sy_ti (y := nI ((5 * q) + 1)) (nI_add (5 * q) 1) ?_
                  refine sy_lald hx hb hK.1 hP 10 1 rfl rfl (k := (5 * q) + 1) (by omega) (by decide) d_Model_known_190 ?_
                  refine lv_iload_n hx hb d_Model_known_191 rfl (lv_at hl 6 rfl) ?_
                  refine lv_i2l (v := kd.toInt64) hx hb d_Model_known_192 rfl ?_
                  refine sy_lc_ne (tgt := 241) hx hb d_Model_known_193 d_Model_known_194 (by decide) (fun c_19 => ?_) (fun c_19 => ?_)
                  · refine lv_iconst (v := 0) hx hb d_Model_known_241 (by decide) ?_
                    refine cut242 false ls ?_ (lv_sub hl [0, 1, 2, 3, 4, 5, 6, 7] rfl)
                    simp [mo_fp, c_5, c_5n, c_17, c_18, c_19]
                  · refine lv_aload_n hx hb d_Model_known_197 rfl (lv_at hl 3 rfl) ?_
                    refine va_get (D := G.1) (ci := 7) (v := .ref (ad 9)) (C := R_Model) (T := F_Model) (N := 23) hx hb ht i_Model hown hK.1 hP 0 rfl rfl 12 (by decide) (ht _ m_517) (fun _ h9 => h9) rfl d_Model_known_198 ?_
                    refine lv_iconst (v := 5) hx hb d_Model_known_201 (by decide) ?_
                    refine lv_iload hx hb d_Model_known_202 (lv_at hl 0 rfl) ?_
                    refine lv_imul hx hb d_Model_known_204 ?_
                    refine sy_ti (y := nI (5 * q)) (pk_mul 5 q) ?_
                    refine lv_iconst (v := 2) hx hb d_Model_known_205 (by decide) ?_
                    refine lv_iadd hx hb d_Model_known_206 ?_
                    refine sy_ti (y := nI ((5 * q) + 2)) (nI_add (5 * q) 2) ?_
                    refine sy_lald hx hb hK.1 hP 10 1 rfl rfl (k := (5 * q) + 2) (by omega) (by decide) d_Model_known_207 ?_
                    refine lv_aload_n hx hb d_Model_known_208 rfl (lv_at hl 3 rfl) ?_
                    refine va_get (D := G.1) (ci := 7) (v := .ref (ad 6)) (C := R_Model) (T := F_Model) (N := 23) hx hb ht i_Model hown hK.1 hP 0 rfl rfl 8 (by decide) (ht _ m_513) (fun _ h9 => h9) rfl d_Model_known_209 ?_
                    refine lv_iload hx hb d_Model_known_212 (lv_at hl 2 rfl) ?_
                    refine sy_iald hx hb hK.1 hP 7 0 rfl rfl (k := jf) (by omega) (by decide) d_Model_known_214 ?_
                    refine lv_i2l (v := (mI 6 jf).toInt64) hx hb d_Model_known_215 rfl ?_
                    refine sy_lc_ne (tgt := 241) hx hb d_Model_known_216 d_Model_known_217 (by decide) (fun c_20 => ?_) (fun c_20 => ?_)
                    · refine lv_iconst (v := 0) hx hb d_Model_known_241 (by decide) ?_
                      refine cut242 false ls ?_ (lv_sub hl [0, 1, 2, 3, 4, 5, 6, 7] rfl)
                      simp [mo_fp, c_5, c_5n, c_17, c_18, c_19, c_20]
                    · refine lv_aload_n hx hb d_Model_known_220 rfl (lv_at hl 3 rfl) ?_
                      refine va_get (D := G.1) (ci := 7) (v := .ref (ad 9)) (C := R_Model) (T := F_Model) (N := 23) hx hb ht i_Model hown hK.1 hP 0 rfl rfl 12 (by decide) (ht _ m_517) (fun _ h9 => h9) rfl d_Model_known_221 ?_
                      refine lv_iconst (v := 5) hx hb d_Model_known_224 (by decide) ?_
                      refine lv_iload hx hb d_Model_known_225 (lv_at hl 0 rfl) ?_
                      refine lv_imul hx hb d_Model_known_227 ?_
                      refine sy_ti (y := nI (5 * q)) (pk_mul 5 q) ?_
                      refine lv_iconst (v := 4) hx hb d_Model_known_228 (by decide) ?_
                      refine lv_iadd hx hb d_Model_known_229 ?_
                      refine sy_ti (y := nI ((5 * q) + 4)) (nI_add (5 * q) 4) ?_
                      refine sy_lald hx hb hK.1 hP 10 1 rfl rfl (k := (5 * q) + 4) (by omega) (by decide) d_Model_known_230 ?_
                      refine lv_lload hx hb d_Model_known_231 (lv_at hl 7 rfl) ?_
                      refine sy_lc_gt (tgt := 241) hx hb d_Model_known_233 d_Model_known_234 (by decide) (fun c_21 => ?_) (fun c_21 => ?_)
                      · have c_21n := sy_a64 c_21
                        refine lv_iconst (v := 0) hx hb d_Model_known_241 (by decide) ?_
                        refine cut242 false ls ?_ (lv_sub hl [0, 1, 2, 3, 4, 5, 6, 7] rfl)
                        simp [mo_fp, c_5, c_5n, c_17, c_18, c_19, c_20, c_21, c_21n]
                      · have c_21n := sy_b64 c_21
                        refine lv_iconst (v := 1) hx hb d_Model_known_237 (by decide) ?_
                        refine lv_goto (tgt := 242) hx hb d_Model_known_238 (by decide) ?_
                        refine cut242 true ls ?_ (lv_sub hl [0, 1, 2, 3, 4, 5, 6, 7] rfl)
                        simp [mo_fp, c_5, c_5n, c_17, c_18, c_19, c_20, c_21, c_21n]
        · exact ⟨Nat.zero_le _, rfl⟩
    · have c_1 : ¬ (sc 1) ≤ k := fun h9 => c_1 ((nI_leI (a := sc 1) (b := k) (by omega) (by omega)).mpr h9)
      have c_1n : k < (sc 1) := by omega
      refine lv_aload_n hx hb d_Model_known_15 rfl (lv_at hl 2 rfl) ?_
      refine lv_iload_n hx hb d_Model_known_16 rfl (lv_at hl 3 rfl) ?_
      refine vp_callSi (va_Run.run (sy_runV (As := [.int d]) (rest := []) (b := ob) ⟨hx, hb, hml, hown, ht⟩ cl_Model_96 (c_Model_isSet l G ob ad sc mI mL mZ d (by omega)) hK hP (va_recv hK.1 hP (ci := 7) (q0 := 0) rfl rfl) rfl nm_Model_isSet rfl rfl ⟨Nat.le_of_ble_eq_true rfl, Nat.le_of_ble_eq_true rfl⟩ hl.1 (Nat.le_of_ble_eq_true rfl) d_Model_known_17 ⟨Nat.zero_le _, Nat.zero_le _⟩)) (fun r_22 hr_22 => ?_)
      subst hr_22
      refine lv_if_eq (tgt := 87) hx hb d_Model_known_20 (by decide) (fun c_23 => ?_) (fun c_23 => ?_)
      · have c_23 : (mo_ok (sc 3) d) = false := bI_f c_23
        refine lv_iconst (v := 0) hx hb d_Model_known_87 (by decide) ?_
        refine lv_istore (lv' := [(10, .int 0), (9, .int (nI k)), (8, .int (oI o)), (0, .ref ob), (1, .int d), (2, .int dv), (3, .int kd), (4, .long se), (6, .long wh)]) hx hb d_Model_known_88 hl (by decide) rfl (fun ls hl => ?_)
        refine lv_iload hx hb d_Model_known_90 (lv_at hl 0 rfl) ?_
        refine lv_if_eq (tgt := 116) hx hb d_Model_known_92 (by decide) (fun c_24 => ?_) (fun c_24 => absurd (by decide) c_24)
        refine lv_iload hx hb d_Model_known_116 (lv_at hl 2 rfl) ?_
        refine lv_istore (lv' := [(8, .int (oI o)), (10, .int 0), (9, .int (nI k)), (0, .ref ob), (1, .int d), (2, .int dv), (3, .int kd), (4, .long se), (6, .long wh)]) hx hb d_Model_known_118 hl (by decide) rfl (fun ls hl => ?_)
        refine lv_iinc (v := nI (k + 1)) (lv' := [(9, .int (nI (k + 1))), (8, .int (oI o)), (10, .int 0), (0, .ref ob), (1, .int d), (2, .int dv), (3, .int kd), (4, .long se), (6, .long wh)]) hx hb d_Model_known_120 hl (k := 2) rfl (nI_add k 1) (by decide) rfl (fun ls hl => ?_)
        refine lv_goto (tgt := 6) hx hb d_Model_known_123 (by decide) ?_
        refine ih6 (k + 1, o) ls (show sc 1 - (k + 1) < sc 1 - k by omega) ?_ (lv_sub hl [0, 1, 3, 4, 5, 6, 7, 8] rfl)
        exact ⟨by omega, by first | (rw [nn_fm, if_pos (by simp [mo_kp, c_1, c_1n, c_23, c_24]; done), ← hI]; simp [nn_up, mo_kp, c_1, c_1n, c_23, c_24]; done) | (rw [nn_fm, if_neg (by simp [mo_kp, c_1, c_1n, c_23, c_24]; done), ← hI])⟩
      · have c_23 : (mo_ok (sc 3) d) = true := bI_t c_23
        obtain ⟨zd, hzd, ezd⟩ := mo_ix (by omega) c_23
        subst ezd
        have hczd : (nI zd).toNatClampNeg = zd := nI_clamp (by omega)
        refine lv_aload_n hx hb d_Model_known_23 rfl (lv_at hl 2 rfl) ?_
        refine va_get (D := G.1) (ci := 7) (v := .ref (ad 2)) (C := R_Model) (T := F_Model) (N := 23) hx hb ht i_Model hown hK.1 hP 0 rfl rfl 4 (by decide) (ht _ m_509) (fun _ h9 => h9) rfl d_Model_known_24 ?_
        refine lv_iload hx hb d_Model_known_27 (lv_at hl 0 rfl) ?_
        refine sy_iald hx hb hK.1 hP 3 0 rfl rfl (k := k) (by omega) (by decide) d_Model_known_29 ?_
        refine lv_iload_n hx hb d_Model_known_30 rfl (lv_at hl 4 rfl) ?_
        refine lv_icmp_ne (tgt := 87) hx hb d_Model_known_31 (by decide) (fun c_25 => ?_) (fun c_25 => ?_)
        · refine lv_iconst (v := 0) hx hb d_Model_known_87 (by decide) ?_
          refine lv_istore (lv' := [(10, .int 0), (9, .int (nI k)), (8, .int (oI o)), (0, .ref ob), (1, .int (nI zd)), (2, .int dv), (3, .int kd), (4, .long se), (6, .long wh)]) hx hb d_Model_known_88 hl (by decide) rfl (fun ls hl => ?_)
          refine lv_iload hx hb d_Model_known_90 (lv_at hl 0 rfl) ?_
          refine lv_if_eq (tgt := 116) hx hb d_Model_known_92 (by decide) (fun c_26 => ?_) (fun c_26 => absurd (by decide) c_26)
          refine lv_iload hx hb d_Model_known_116 (lv_at hl 2 rfl) ?_
          refine lv_istore (lv' := [(8, .int (oI o)), (10, .int 0), (9, .int (nI k)), (0, .ref ob), (1, .int (nI zd)), (2, .int dv), (3, .int kd), (4, .long se), (6, .long wh)]) hx hb d_Model_known_118 hl (by decide) rfl (fun ls hl => ?_)
          refine lv_iinc (v := nI (k + 1)) (lv' := [(9, .int (nI (k + 1))), (8, .int (oI o)), (10, .int 0), (0, .ref ob), (1, .int (nI zd)), (2, .int dv), (3, .int kd), (4, .long se), (6, .long wh)]) hx hb d_Model_known_120 hl (k := 2) rfl (nI_add k 1) (by decide) rfl (fun ls hl => ?_)
          refine lv_goto (tgt := 6) hx hb d_Model_known_123 (by decide) ?_
          refine ih6 (k + 1, o) ls (show sc 1 - (k + 1) < sc 1 - k by omega) ?_ (lv_sub hl [0, 1, 3, 4, 5, 6, 7, 8] rfl)
          exact ⟨by omega, by first | (rw [nn_fm, if_pos (by simp [mo_kp, c_1, c_1n, c_23, hczd, c_25, c_26]; done), ← hI]; simp [nn_up, mo_kp, c_1, c_1n, c_23, hczd, c_25, c_26]; done) | (rw [nn_fm, if_neg (by simp [mo_kp, c_1, c_1n, c_23, hczd, c_25, c_26]; done), ← hI])⟩
        · refine lv_aload_n hx hb d_Model_known_34 rfl (lv_at hl 2 rfl) ?_
          refine va_get (D := G.1) (ci := 7) (v := .ref (ad 5)) (C := R_Model) (T := F_Model) (N := 23) hx hb ht i_Model hown hK.1 hP 0 rfl rfl 7 (by decide) (ht _ m_512) (fun _ h9 => h9) rfl d_Model_known_35 ?_
          refine lv_iload hx hb d_Model_known_38 (lv_at hl 0 rfl) ?_
          refine sy_iald hx hb hK.1 hP 6 0 rfl rfl (k := k) (by omega) (by decide) d_Model_known_40 ?_
          refine lv_iload_n hx hb d_Model_known_41 rfl (lv_at hl 5 rfl) ?_
          refine lv_icmp_ne (tgt := 87) hx hb d_Model_known_42 (by decide) (fun c_27 => ?_) (fun c_27 => ?_)
          · refine lv_iconst (v := 0) hx hb d_Model_known_87 (by decide) ?_
            refine lv_istore (lv' := [(10, .int 0), (9, .int (nI k)), (8, .int (oI o)), (0, .ref ob), (1, .int (nI zd)), (2, .int dv), (3, .int kd), (4, .long se), (6, .long wh)]) hx hb d_Model_known_88 hl (by decide) rfl (fun ls hl => ?_)
            refine lv_iload hx hb d_Model_known_90 (lv_at hl 0 rfl) ?_
            refine lv_if_eq (tgt := 116) hx hb d_Model_known_92 (by decide) (fun c_28 => ?_) (fun c_28 => absurd (by decide) c_28)
            refine lv_iload hx hb d_Model_known_116 (lv_at hl 2 rfl) ?_
            refine lv_istore (lv' := [(8, .int (oI o)), (10, .int 0), (9, .int (nI k)), (0, .ref ob), (1, .int (nI zd)), (2, .int dv), (3, .int kd), (4, .long se), (6, .long wh)]) hx hb d_Model_known_118 hl (by decide) rfl (fun ls hl => ?_)
            refine lv_iinc (v := nI (k + 1)) (lv' := [(9, .int (nI (k + 1))), (8, .int (oI o)), (10, .int 0), (0, .ref ob), (1, .int (nI zd)), (2, .int dv), (3, .int kd), (4, .long se), (6, .long wh)]) hx hb d_Model_known_120 hl (k := 2) rfl (nI_add k 1) (by decide) rfl (fun ls hl => ?_)
            refine lv_goto (tgt := 6) hx hb d_Model_known_123 (by decide) ?_
            refine ih6 (k + 1, o) ls (show sc 1 - (k + 1) < sc 1 - k by omega) ?_ (lv_sub hl [0, 1, 3, 4, 5, 6, 7, 8] rfl)
            exact ⟨by omega, by first | (rw [nn_fm, if_pos (by simp [mo_kp, c_1, c_1n, c_23, hczd, c_25, c_27, c_28]; done), ← hI]; simp [nn_up, mo_kp, c_1, c_1n, c_23, hczd, c_25, c_27, c_28]; done) | (rw [nn_fm, if_neg (by simp [mo_kp, c_1, c_1n, c_23, hczd, c_25, c_27, c_28]; done), ← hI])⟩
          · refine lv_aload_n hx hb d_Model_known_45 rfl (lv_at hl 2 rfl) ?_
            refine va_get (D := G.1) (ci := 7) (v := .ref (ad 6)) (C := R_Model) (T := F_Model) (N := 23) hx hb ht i_Model hown hK.1 hP 0 rfl rfl 8 (by decide) (ht _ m_513) (fun _ h9 => h9) rfl d_Model_known_46 ?_
            refine lv_iload hx hb d_Model_known_49 (lv_at hl 0 rfl) ?_
            refine sy_iald hx hb hK.1 hP 7 0 rfl rfl (k := k) (by omega) (by decide) d_Model_known_51 ?_
            refine lv_i2l (v := (mI 6 k).toInt64) hx hb d_Model_known_52 rfl ?_
            refine lv_lload hx hb d_Model_known_53 (lv_at hl 6 rfl) ?_
            refine sy_lc_gt (tgt := 87) hx hb d_Model_known_55 d_Model_known_56 (by decide) (fun c_29 => ?_) (fun c_29 => ?_)
            · have c_29n := sy_a64 c_29
              refine lv_iconst (v := 0) hx hb d_Model_known_87 (by decide) ?_
              refine lv_istore (lv' := [(10, .int 0), (9, .int (nI k)), (8, .int (oI o)), (0, .ref ob), (1, .int (nI zd)), (2, .int dv), (3, .int kd), (4, .long se), (6, .long wh)]) hx hb d_Model_known_88 hl (by decide) rfl (fun ls hl => ?_)
              refine lv_iload hx hb d_Model_known_90 (lv_at hl 0 rfl) ?_
              refine lv_if_eq (tgt := 116) hx hb d_Model_known_92 (by decide) (fun c_30 => ?_) (fun c_30 => absurd (by decide) c_30)
              refine lv_iload hx hb d_Model_known_116 (lv_at hl 2 rfl) ?_
              refine lv_istore (lv' := [(8, .int (oI o)), (10, .int 0), (9, .int (nI k)), (0, .ref ob), (1, .int (nI zd)), (2, .int dv), (3, .int kd), (4, .long se), (6, .long wh)]) hx hb d_Model_known_118 hl (by decide) rfl (fun ls hl => ?_)
              refine lv_iinc (v := nI (k + 1)) (lv' := [(9, .int (nI (k + 1))), (8, .int (oI o)), (10, .int 0), (0, .ref ob), (1, .int (nI zd)), (2, .int dv), (3, .int kd), (4, .long se), (6, .long wh)]) hx hb d_Model_known_120 hl (k := 2) rfl (nI_add k 1) (by decide) rfl (fun ls hl => ?_)
              refine lv_goto (tgt := 6) hx hb d_Model_known_123 (by decide) ?_
              refine ih6 (k + 1, o) ls (show sc 1 - (k + 1) < sc 1 - k by omega) ?_ (lv_sub hl [0, 1, 3, 4, 5, 6, 7, 8] rfl)
              exact ⟨by omega, by first | (rw [nn_fm, if_pos (by simp [mo_kp, c_1, c_1n, c_23, hczd, c_25, c_27, c_29, c_29n, c_30]; done), ← hI]; simp [nn_up, mo_kp, c_1, c_1n, c_23, hczd, c_25, c_27, c_29, c_29n, c_30]; done) | (rw [nn_fm, if_neg (by simp [mo_kp, c_1, c_1n, c_23, hczd, c_25, c_27, c_29, c_29n, c_30]; done), ← hI])⟩
            · have c_29n := sy_b64 c_29
              refine lv_aload_n hx hb d_Model_known_59 rfl (lv_at hl 2 rfl) ?_
              refine va_get (D := G.1) (ci := 7) (v := .ref (ad 8)) (C := R_Model) (T := F_Model) (N := 23) hx hb ht i_Model hown hK.1 hP 0 rfl rfl 10 (by decide) (ht _ m_515) (fun _ h9 => h9) rfl d_Model_known_60 ?_
              refine lv_iload hx hb d_Model_known_63 (lv_at hl 0 rfl) ?_
              refine sy_iald hx hb hK.1 hP 9 0 rfl rfl (k := k) (by omega) (by decide) d_Model_known_65 ?_
              refine lv_i2l (v := (mI 8 k).toInt64) hx hb d_Model_known_66 rfl ?_
              refine lv_lload hx hb d_Model_known_67 (lv_at hl 7 rfl) ?_
              refine sy_lc_gt (tgt := 87) hx hb d_Model_known_69 d_Model_known_70 (by decide) (fun c_31 => ?_) (fun c_31 => ?_)
              · have c_31n := sy_a64 c_31
                refine lv_iconst (v := 0) hx hb d_Model_known_87 (by decide) ?_
                refine lv_istore (lv' := [(10, .int 0), (9, .int (nI k)), (8, .int (oI o)), (0, .ref ob), (1, .int (nI zd)), (2, .int dv), (3, .int kd), (4, .long se), (6, .long wh)]) hx hb d_Model_known_88 hl (by decide) rfl (fun ls hl => ?_)
                refine lv_iload hx hb d_Model_known_90 (lv_at hl 0 rfl) ?_
                refine lv_if_eq (tgt := 116) hx hb d_Model_known_92 (by decide) (fun c_32 => ?_) (fun c_32 => absurd (by decide) c_32)
                refine lv_iload hx hb d_Model_known_116 (lv_at hl 2 rfl) ?_
                refine lv_istore (lv' := [(8, .int (oI o)), (10, .int 0), (9, .int (nI k)), (0, .ref ob), (1, .int (nI zd)), (2, .int dv), (3, .int kd), (4, .long se), (6, .long wh)]) hx hb d_Model_known_118 hl (by decide) rfl (fun ls hl => ?_)
                refine lv_iinc (v := nI (k + 1)) (lv' := [(9, .int (nI (k + 1))), (8, .int (oI o)), (10, .int 0), (0, .ref ob), (1, .int (nI zd)), (2, .int dv), (3, .int kd), (4, .long se), (6, .long wh)]) hx hb d_Model_known_120 hl (k := 2) rfl (nI_add k 1) (by decide) rfl (fun ls hl => ?_)
                refine lv_goto (tgt := 6) hx hb d_Model_known_123 (by decide) ?_
                refine ih6 (k + 1, o) ls (show sc 1 - (k + 1) < sc 1 - k by omega) ?_ (lv_sub hl [0, 1, 3, 4, 5, 6, 7, 8] rfl)
                exact ⟨by omega, by first | (rw [nn_fm, if_pos (by simp [mo_kp, c_1, c_1n, c_23, hczd, c_25, c_27, c_29, c_29n, c_31, c_31n, c_32]; done), ← hI]; simp [nn_up, mo_kp, c_1, c_1n, c_23, hczd, c_25, c_27, c_29, c_29n, c_31, c_31n, c_32]; done) | (rw [nn_fm, if_neg (by simp [mo_kp, c_1, c_1n, c_23, hczd, c_25, c_27, c_29, c_29n, c_31, c_31n, c_32]; done), ← hI])⟩
              · have c_31n := sy_b64 c_31
                refine lv_aload_n hx hb d_Model_known_73 rfl (lv_at hl 2 rfl) ?_
                refine lv_iload_n hx hb d_Model_known_74 rfl (lv_at hl 3 rfl) ?_
                refine lv_iload hx hb d_Model_known_75 (lv_at hl 0 rfl) ?_
                refine vp_callSi (va_Run.run (sy_runV (As := [.int (nI zd), .int (nI k)]) (rest := []) (b := ob) ⟨hx, hb, hml, hown, ht⟩ cl_Model_121 (c_Model_isSeen l G ob ad sc mI mL mZ zd k (by omega) (by omega) (by omega)) hK hP (va_recv hK.1 hP (ci := 7) (q0 := 0) rfl rfl) rfl nm_Model_isSeen rfl rfl ⟨Nat.le_of_ble_eq_true rfl, Nat.le_of_ble_eq_true rfl⟩ hl.1 (Nat.le_of_ble_eq_true rfl) d_Model_known_77 ⟨Nat.zero_le _, Nat.zero_le _⟩)) (fun r_33 hr_33 => ?_)
                subst hr_33
                refine lv_if_eq (tgt := 87) hx hb d_Model_known_80 (by decide) (fun c_34 => ?_) (fun c_34 => ?_)
                · have c_34 : (mo_se mI mL mZ (sc 1) zd k) = false := bI_f c_34
                  refine lv_iconst (v := 0) hx hb d_Model_known_87 (by decide) ?_
                  refine lv_istore (lv' := [(10, .int 0), (9, .int (nI k)), (8, .int (oI o)), (0, .ref ob), (1, .int (nI zd)), (2, .int dv), (3, .int kd), (4, .long se), (6, .long wh)]) hx hb d_Model_known_88 hl (by decide) rfl (fun ls hl => ?_)
                  refine lv_iload hx hb d_Model_known_90 (lv_at hl 0 rfl) ?_
                  refine lv_if_eq (tgt := 116) hx hb d_Model_known_92 (by decide) (fun c_35 => ?_) (fun c_35 => absurd (by decide) c_35)
                  refine lv_iload hx hb d_Model_known_116 (lv_at hl 2 rfl) ?_
                  refine lv_istore (lv' := [(8, .int (oI o)), (10, .int 0), (9, .int (nI k)), (0, .ref ob), (1, .int (nI zd)), (2, .int dv), (3, .int kd), (4, .long se), (6, .long wh)]) hx hb d_Model_known_118 hl (by decide) rfl (fun ls hl => ?_)
                  refine lv_iinc (v := nI (k + 1)) (lv' := [(9, .int (nI (k + 1))), (8, .int (oI o)), (10, .int 0), (0, .ref ob), (1, .int (nI zd)), (2, .int dv), (3, .int kd), (4, .long se), (6, .long wh)]) hx hb d_Model_known_120 hl (k := 2) rfl (nI_add k 1) (by decide) rfl (fun ls hl => ?_)
                  refine lv_goto (tgt := 6) hx hb d_Model_known_123 (by decide) ?_
                  refine ih6 (k + 1, o) ls (show sc 1 - (k + 1) < sc 1 - k by omega) ?_ (lv_sub hl [0, 1, 3, 4, 5, 6, 7, 8] rfl)
                  exact ⟨by omega, by first | (rw [nn_fm, if_pos (by simp [mo_kp, c_1, c_1n, c_23, hczd, c_25, c_27, c_29, c_29n, c_31, c_31n, c_34, c_35]; done), ← hI]; simp [nn_up, mo_kp, c_1, c_1n, c_23, hczd, c_25, c_27, c_29, c_29n, c_31, c_31n, c_34, c_35]; done) | (rw [nn_fm, if_neg (by simp [mo_kp, c_1, c_1n, c_23, hczd, c_25, c_27, c_29, c_29n, c_31, c_31n, c_34, c_35]; done), ← hI])⟩
                · have c_34 : (mo_se mI mL mZ (sc 1) zd k) = true := bI_t c_34
                  refine lv_iconst (v := 1) hx hb d_Model_known_83 (by decide) ?_
                  refine lv_goto (tgt := 88) hx hb d_Model_known_84 (by decide) ?_
                  refine lv_istore (lv' := [(10, .int 1), (9, .int (nI k)), (8, .int (oI o)), (0, .ref ob), (1, .int (nI zd)), (2, .int dv), (3, .int kd), (4, .long se), (6, .long wh)]) hx hb d_Model_known_88 hl (by decide) rfl (fun ls hl => ?_)
                  refine lv_iload hx hb d_Model_known_90 (lv_at hl 0 rfl) ?_
                  refine lv_if_eq (tgt := 116) hx hb d_Model_known_92 (by decide) (fun c_36 => absurd c_36 (by decide)) (fun c_36 => ?_)
                  refine lv_iload hx hb d_Model_known_95 (lv_at hl 2 rfl) ?_
                  rcases o with _ | j_37
                  · have hl : lv_has ls 13 [(10, .int 1), (9, .int (nI k)), (8, .int (-1)), (0, .ref ob), (1, .int (nI zd)), (2, .int dv), (3, .int kd), (4, .long se), (6, .long wh)] := hl
                    refine lv_if_lt (tgt := 111) hx hb d_Model_known_97 (by decide) (fun c_38 => ?_) (fun c_38 => absurd (by decide) c_38)
                    refine lv_iload hx hb d_Model_known_111 (lv_at hl 1 rfl) ?_
                    refine lv_goto (tgt := 118) hx hb d_Model_known_113 (by decide) ?_
                    refine lv_istore (lv' := [(8, .int (nI k)), (10, .int 1), (9, .int (nI k)), (0, .ref ob), (1, .int (nI zd)), (2, .int dv), (3, .int kd), (4, .long se), (6, .long wh)]) hx hb d_Model_known_118 hl (by decide) rfl (fun ls hl => ?_)
                    refine lv_iinc (v := nI (k + 1)) (lv' := [(9, .int (nI (k + 1))), (8, .int (nI k)), (10, .int 1), (0, .ref ob), (1, .int (nI zd)), (2, .int dv), (3, .int kd), (4, .long se), (6, .long wh)]) hx hb d_Model_known_120 hl (k := 2) rfl (nI_add k 1) (by decide) rfl (fun ls hl => ?_)
                    refine lv_goto (tgt := 6) hx hb d_Model_known_123 (by decide) ?_
                    refine ih6 (k + 1, (some k)) ls (show sc 1 - (k + 1) < sc 1 - k by omega) ?_ (lv_sub hl [0, 1, 3, 4, 5, 6, 7, 8] rfl)
                    exact ⟨by omega, by first | (rw [nn_fm, if_pos (by simp [mo_kp, c_1, c_1n, c_23, hczd, c_25, c_27, c_29, c_29n, c_31, c_31n, c_34, c_36, c_38]; done), ← hI]; simp [nn_up, mo_kp, c_1, c_1n, c_23, hczd, c_25, c_27, c_29, c_29n, c_31, c_31n, c_34, c_36, c_38]; done) | (rw [nn_fm, if_neg (by simp [mo_kp, c_1, c_1n, c_23, hczd, c_25, c_27, c_29, c_29n, c_31, c_31n, c_34, c_36, c_38]; done), ← hI])⟩
                  · have hl : lv_has ls 13 [(10, .int 1), (9, .int (nI k)), (8, .int (nI j_37)), (0, .ref ob), (1, .int (nI zd)), (2, .int dv), (3, .int kd), (4, .long se), (6, .long wh)] := hl
                    have hj_37 : j_37 < k := nn_fm_lt hI.symm
                    refine lv_if_lt (tgt := 111) hx hb d_Model_known_97 (by decide) (fun c_39 => absurd c_39 (nI_pos (by omega))) (fun c_39 => ?_)
                    refine lv_aload_n hx hb d_Model_known_100 rfl (lv_at hl 3 rfl) ?_
                    refine lv_iload hx hb d_Model_known_101 (lv_at hl 1 rfl) ?_
                    refine lv_iload hx hb d_Model_known_103 (lv_at hl 2 rfl) ?_
                    refine vp_callSi (va_Run.run (sy_runV (As := [.int (nI k), .int (nI j_37)]) (rest := []) (b := ob) ⟨hx, hb, hml, hown, ht⟩ cl_Model_126 (c_Model_isLater l G ob ad sc mI mL mZ k j_37 (by omega) (by omega)) hK hP (va_recv hK.1 hP (ci := 7) (q0 := 0) rfl rfl) rfl nm_Model_isLater rfl rfl ⟨Nat.le_of_ble_eq_true rfl, Nat.le_of_ble_eq_true rfl⟩ hl.1 (Nat.le_of_ble_eq_true rfl) d_Model_known_105 ⟨Nat.zero_le _, Nat.zero_le _⟩)) (fun r_40 hr_40 => ?_)
                    subst hr_40
                    refine lv_if_eq (tgt := 116) hx hb d_Model_known_108 (by decide) (fun c_41 => ?_) (fun c_41 => ?_)
                    · have c_41 : (mo_lt mI k j_37) = false := bI_f c_41
                      refine lv_iload hx hb d_Model_known_116 (lv_at hl 2 rfl) ?_
                      refine lv_istore (lv' := [(8, .int (nI j_37)), (10, .int 1), (9, .int (nI k)), (0, .ref ob), (1, .int (nI zd)), (2, .int dv), (3, .int kd), (4, .long se), (6, .long wh)]) hx hb d_Model_known_118 hl (by decide) rfl (fun ls hl => ?_)
                      refine lv_iinc (v := nI (k + 1)) (lv' := [(9, .int (nI (k + 1))), (8, .int (nI j_37)), (10, .int 1), (0, .ref ob), (1, .int (nI zd)), (2, .int dv), (3, .int kd), (4, .long se), (6, .long wh)]) hx hb d_Model_known_120 hl (k := 2) rfl (nI_add k 1) (by decide) rfl (fun ls hl => ?_)
                      refine lv_goto (tgt := 6) hx hb d_Model_known_123 (by decide) ?_
                      refine ih6 (k + 1, (some j_37)) ls (show sc 1 - (k + 1) < sc 1 - k by omega) ?_ (lv_sub hl [0, 1, 3, 4, 5, 6, 7, 8] rfl)
                      exact ⟨by omega, by first | (rw [nn_fm, if_pos (by simp [mo_kp, c_1, c_1n, c_23, hczd, c_25, c_27, c_29, c_29n, c_31, c_31n, c_34, c_36, c_39, c_41]; done), ← hI]; simp [nn_up, mo_kp, c_1, c_1n, c_23, hczd, c_25, c_27, c_29, c_29n, c_31, c_31n, c_34, c_36, c_39, c_41]; done) | (rw [nn_fm, if_neg (by simp [mo_kp, c_1, c_1n, c_23, hczd, c_25, c_27, c_29, c_29n, c_31, c_31n, c_34, c_36, c_39, c_41]; done), ← hI])⟩
                    · have c_41 : (mo_lt mI k j_37) = true := bI_t c_41
                      refine lv_iload hx hb d_Model_known_111 (lv_at hl 1 rfl) ?_
                      refine lv_goto (tgt := 118) hx hb d_Model_known_113 (by decide) ?_
                      refine lv_istore (lv' := [(8, .int (nI k)), (10, .int 1), (9, .int (nI k)), (0, .ref ob), (1, .int (nI zd)), (2, .int dv), (3, .int kd), (4, .long se), (6, .long wh)]) hx hb d_Model_known_118 hl (by decide) rfl (fun ls hl => ?_)
                      refine lv_iinc (v := nI (k + 1)) (lv' := [(9, .int (nI (k + 1))), (8, .int (nI k)), (10, .int 1), (0, .ref ob), (1, .int (nI zd)), (2, .int dv), (3, .int kd), (4, .long se), (6, .long wh)]) hx hb d_Model_known_120 hl (k := 2) rfl (nI_add k 1) (by decide) rfl (fun ls hl => ?_)
                      refine lv_goto (tgt := 6) hx hb d_Model_known_123 (by decide) ?_
                      refine ih6 (k + 1, (some k)) ls (show sc 1 - (k + 1) < sc 1 - k by omega) ?_ (lv_sub hl [0, 1, 3, 4, 5, 6, 7, 8] rfl)
                      exact ⟨by omega, by first | (rw [nn_fm, if_pos (by simp [mo_kp, c_1, c_1n, c_23, hczd, c_25, c_27, c_29, c_29n, c_31, c_31n, c_34, c_36, c_39, c_41]; done), ← hI]; simp [nn_up, mo_kp, c_1, c_1n, c_23, hczd, c_25, c_27, c_29, c_29n, c_31, c_31n, c_34, c_36, c_39, c_41]; done) | (rw [nn_fm, if_neg (by simp [mo_kp, c_1, c_1n, c_23, hczd, c_25, c_27, c_29, c_29n, c_31, c_31n, c_34, c_36, c_39, c_41]; done), ← hI])⟩
  · exact ⟨Nat.zero_le _, rfl⟩
