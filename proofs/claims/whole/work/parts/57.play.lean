set_option maxHeartbeats 4000000 in
set_option maxRecDepth 100000 in
theorem c_Model_play (l : Launch) (G : sy_G) (ob : Nat) (ad : Nat → Nat) (sc : Nat → Nat) (mI : Nat → Nat → Int32) (mL : Nat → Nat → Int64) (mZ : Nat → Nat → Bool) (sd : Int64) (tn : Int32) (hs : sc 3 ≤ 6) : Met l y_Model_play (sy_w y_Model_play b_Model_play 10 (some .int)) { frames := 2, cells := 0, slots := 0, locals := 48 } (va_Pc [.ref ob, .long sd, .int tn] (sy_KP G (fun H => va_P G.1 classes (mw G.2 ob ad sc mI mL mZ) H ∧ va_D (fun _ => True) (mw G.2 ob ad sc mI mL mZ)))) (va_Qi (S := ms_S) (fun r u => r = (mo_play sc mI mL mZ sd tn).1 ∧ u = (mo_play sc mI mL mZ sd tn).2) (fun u t => va_P G.1 classes (mw G.2 ob ad u.1 u.2.1 u.2.2.1 u.2.2.2) t.heap) (sy_A (mw G.2 ob ad sc mI mL mZ))) 0 0 (sy_A (mw G.2 ob ad sc mI mL mZ)) := by
  refine Met.ofW (cc := b_Model_play) (maxL := 10) (ret := (some .int)) (by decide) rfl ?_
  intro p e s m args below meth c s₁ B hml hv
  obtain ⟨rfl, ⟨hP, hD0⟩, hK⟩ := hv
  have hx := B.exec
  have hb := B.bytes
  have hr := B.returns
  have hts := atoms_spec (ws := sy_w y_Model_play b_Model_play 10 (some .int)) B.pre
  have ht : ∀ wd ∈ sy_T, wd.before ([.ref ob, .long sd, .int tn] : List Value).toArray s = true := fun wd h => hts wd (List.mem_cons_of_mem _ h)
  have hown : s.vm.findClass R_Model = some m.cls := findClass_of_methodNamed B.named
  have hlocks := B.notSynchronized
  have hD := sy_self hD0
  generalize hAe : sy_A (mw G.2 ob ad sc mI mL mZ) = A at hD ⊢
  have hS : va_S A s.heap s.heap [] := va_S.rf
  have hl := lv_entry ([.ref ob, .long sd, .int tn]) (n := 10) (Nat.le_of_ble_eq_true rfl)
  rw [lg_entry_eq]
  generalize (lg_sl ([.ref ob, .long sd, .int tn]) ++ List.replicate (10 - (lg_sl ([.ref ob, .long sd, .int tn])).length) Slot.unset).toArray = ls at hl ⊢
  have hl : lv_has ls 10 [(0, .ref ob), (1, .long sd), (3, .int tn)] := hl
  refine lv_aload_n hx hb d_Model_play_0 rfl (lv_at hl 0 rfl) ?_
  refine va_get (D := G.1) (ci := 7) (v := .int (nI (sc 3))) (C := R_Model) (T := F_Model) (N := 23) hx hb ht i_Model hown hK.1 hP 0 rfl rfl 13 (by decide) (ht _ m_518) (fun _ h9 => h9) rfl d_Model_play_1 ?_
  refine lv_if_eq (tgt := 18) hx hb d_Model_play_4 (by decide) (fun c_1 => ?_) (fun c_1 => ?_)
  · have c_1 : (sc 3) = 0 := (nI_eq (by omega) (by omega)).mp (c_1.trans nI_0.symm)
    refine lv_iconst (v := (-1)) hx hb d_Model_play_18 (by decide) ?_
    exact W.iret (v := (-1 : Int32)) hx hb hr (fun t ht hW => ⟨⟨(-1 : Int32), (sc, mI, mL, mZ), rfl, by first | (constructor <;> simp [mo_play, c_1]; done) | (have e : k = tz := (by omega); rw [e] at hI; constructor <;> (rw [mo_play, if_neg (by simp [c_1]; done), hctz, ← hI])), by show va_P _ _ _ t.heap; rw [ht]; exact hP⟩, hS.F ht⟩) hS.2.2 d_Model_play_19
  · have c_1 : ¬ (sc 3) = 0 := fun h9 => c_1 (by rw [h9]; exact nI_0)
    refine lv_iload_n hx hb d_Model_play_7 rfl (lv_at hl 2 rfl) ?_
    refine lv_if_lt (tgt := 18) hx hb d_Model_play_8 (by decide) (fun c_2 => ?_) (fun c_2 => ?_)
    · have c_2n := sy_a32 c_2
      refine lv_iconst (v := (-1)) hx hb d_Model_play_18 (by decide) ?_
      exact W.iret (v := (-1 : Int32)) hx hb hr (fun t ht hW => ⟨⟨(-1 : Int32), (sc, mI, mL, mZ), rfl, by first | (constructor <;> simp [mo_play, c_1, c_2, c_2n]; done) | (have e : k = tz := (by omega); rw [e] at hI; constructor <;> (rw [mo_play, if_neg (by simp [c_1, c_2, c_2n]; done), hctz, ← hI])), by show va_P _ _ _ t.heap; rw [ht]; exact hP⟩, hS.F ht⟩) hS.2.2 d_Model_play_19
    · have c_2n := sy_b32 c_2
      refine lv_iload_n hx hb d_Model_play_11 rfl (lv_at hl 2 rfl) ?_
      refine lv_sipush (v := 1000) hx hb d_Model_play_12 (by decide) ?_
      refine lv_icmp_le (tgt := 20) hx hb d_Model_play_15 (by decide) (fun c_3 => ?_) (fun c_3 => ?_)
      · have c_3n := sy_c32 c_3
        obtain ⟨tz, htz, etz⟩ := nI_of2 (x := tn) (M := 1000) (n := 1000) (by decide) (by assumption) (by assumption)
        have hctz : tn.toNatClampNeg = tz := by rw [etz]; exact nI_clamp (by omega)
        have hl : lv_has ls 10 [(0, .ref ob), (1, .long sd), (3, .int (nI tz))] := by rw [← etz]; exact hl
        refine lv_lload_n hx hb d_Model_play_20 rfl (lv_at hl 1 rfl) ?_
        refine lv_lstore (lv' := [(4, .long sd), (0, .ref ob), (1, .long sd), (3, .int (nI tz))]) hx hb d_Model_play_21 hl (by decide) rfl (fun ls hl => ?_)
        refine lv_iconst (v := 0) hx hb d_Model_play_23 (by decide) ?_
        refine lv_istore (lv' := [(6, .int 0), (4, .long sd), (0, .ref ob), (1, .long sd), (3, .int (nI tz))]) hx hb d_Model_play_24 hl (by decide) rfl (fun ls hl => ?_)
        refine lv_iconst (v := 0) hx hb d_Model_play_26 (by decide) ?_
        refine lv_istore (lv' := [(7, .int 0), (6, .int 0), (4, .long sd), (0, .ref ob), (1, .long sd), (3, .int (nI tz))]) hx hb d_Model_play_27 hl (by decide) rfl (fun ls hl => ?_)
        refine sy_loopH (σ := Nat × Int64 × Nat × (Nat → Nat → Int32) × (Nat → Nat → Int64) × (Nat → Nat → Bool)) (nL := 10) (fun x29 => match x29 with | (k, x, mm, I, L, Z) => tz - k) (fun x29 => match x29 with | (k, x, mm, I, L, Z) => [(7, .int (nI k)), (4, .long x), (6, .int (nI mm)), (0, .ref ob), (3, .int (nI tz))]) (fun x29 H locs => match x29 with | (k, x, mm, I, L, Z) => k ≤ tz ∧ mm ≤ k ∧ (x, mm, I, L, Z) = mo_pl sc sd mI mL mZ k ∧ va_P G.1 classes (mw G.2 ob ad sc I L Z) H ∧ va_D A (mw G.2 ob ad sc I L Z) ∧ va_S A s.heap H locs) ?_ (0, sd, 0, mI, mL, mZ) ?_ (lv_sub hl [0, 2, 1, 3, 5] rfl)
        · intro x29 H locs ls hI hl ih29
          obtain ⟨k, x, mm, I, L, Z⟩ := x29
          have hl : lv_has ls 10 [(7, .int (nI k)), (4, .long x), (6, .int (nI mm)), (0, .ref ob), (3, .int (nI tz))] := hl
          obtain ⟨hk, hmm, hI, hP, hD, hS⟩ := hI
          refine lv_iload hx hb d_Model_play_29 (lv_at hl 0 rfl) ?_
          refine lv_iload_n hx hb d_Model_play_31 rfl (lv_at hl 4 rfl) ?_
          refine lv_icmp_ge (tgt := 121) hx hb d_Model_play_32 (by decide) (fun c_4 => ?_) (fun c_4 => ?_)
          · have c_4 : tz ≤ k := (nI_leI (a := tz) (b := k) (by omega) (by omega)).mp c_4
            have c_4n : ¬ k < tz := by omega
            refine lv_iload hx hb d_Model_play_121 (lv_at hl 2 rfl) ?_
            exact W.iret (v := nI mm) hx hb hr (fun t ht hW => ⟨⟨nI mm, (sc, I, L, Z), rfl, by first | (constructor <;> simp [mo_play, c_1, c_2, c_2n, c_3, c_3n, c_4, c_4n]; done) | (have e : k = tz := (by omega); rw [e] at hI; constructor <;> (rw [mo_play, if_neg (by simp [c_1, c_2, c_2n, c_3, c_3n, c_4, c_4n]; done), hctz, ← hI])), by show va_P _ _ _ t.heap; rw [ht]; exact hP⟩, hS.F ht⟩) hS.2.2 d_Model_play_123
          · have c_4 : ¬ tz ≤ k := fun h9 => c_4 ((nI_leI (a := tz) (b := k) (by omega) (by omega)).mpr h9)
            have c_4n : k < tz := by omega
            refine lv_lload hx hb d_Model_play_35 (lv_at hl 1 rfl) ?_
            refine lv_ldc2 (v := 6364136223846793005) hx hb hown (ht _ m_724) d_Model_play_37 ?_
            refine lv_lmul hx hb d_Model_play_40 ?_
            refine lv_ldc2 (v := 1442695040888963407) hx hb hown (ht _ m_725) d_Model_play_41 ?_
            refine lv_ladd hx hb d_Model_play_44 ?_
            refine sy_tl (y := dr_next x) rfl ?_
            refine lv_lstore (lv' := [(4, .long (dr_next x)), (7, .int (nI k)), (6, .int (nI mm)), (0, .ref ob), (3, .int (nI tz))]) hx hb d_Model_play_45 hl (by decide) rfl (fun ls hl => ?_)
            refine lv_lload hx hb d_Model_play_47 (lv_at hl 0 rfl) ?_
            refine lv_bipush (v := 33) hx hb d_Model_play_49 (by decide) ?_
            refine lv_lushr (v := ((dr_next x).toUInt64 >>> ((33 : Int32).toInt64.toUInt64 &&& Int64.toUInt64 63)).toInt64) hx hb d_Model_play_51 rfl ?_
            refine lv_aload_n hx hb d_Model_play_52 rfl (lv_at hl 3 rfl) ?_
            refine va_get (D := G.1) (ci := 7) (v := .int (nI (sc 3))) (C := R_Model) (T := F_Model) (N := 23) hx hb ht i_Model hown hK.1 hP 0 rfl rfl 13 (by decide) (ht _ m_518) (fun _ h9 => h9) rfl d_Model_play_53 ?_
            refine lv_i2l (v := (nI (sc 3)).toInt64) hx hb d_Model_play_56 rfl ?_
            refine lv_lrem hx hb d_Model_play_57 (by rw [nI_l (by omega)]; intro q9; have := (lN_eq (by omega) (by omega)).mp (show lN (sc 3) = lN 0 from q9); omega) ?_
            refine lv_l2i (v := ((((dr_next x).toUInt64 >>> ((33 : Int32).toInt64.toUInt64 &&& Int64.toUInt64 63)).toInt64) - (((dr_next x).toUInt64 >>> ((33 : Int32).toInt64.toUInt64 &&& Int64.toUInt64 63)).toInt64) / ((nI (sc 3)).toInt64) * ((nI (sc 3)).toInt64)).toInt32) hx hb d_Model_play_58 rfl ?_
            refine sy_ti (y := nI (dr_ix (dr_next x) (sc 3))) (dr_eq (by omega) (by omega)) ?_
            have hd59 : dr_ix (dr_next x) (sc 3) < sc 3 := Nat.mod_lt _ (by omega)
            refine lv_istore (lv' := [(8, .int (nI (dr_ix (dr_next x) (sc 3)))), (4, .long (dr_next x)), (7, .int (nI k)), (6, .int (nI mm)), (0, .ref ob), (3, .int (nI tz))]) hx hb d_Model_play_59 hl (by decide) rfl (fun ls hl => ?_)
            refine lv_lload hx hb d_Model_play_61 (lv_at hl 1 rfl) ?_
            refine lv_ldc2 (v := 6364136223846793005) hx hb hown (ht _ m_724) d_Model_play_63 ?_
            refine lv_lmul hx hb d_Model_play_66 ?_
            refine lv_ldc2 (v := 1442695040888963407) hx hb hown (ht _ m_725) d_Model_play_67 ?_
            refine lv_ladd hx hb d_Model_play_70 ?_
            refine sy_tl (y := dr_next (dr_next x)) rfl ?_
            refine lv_lstore (lv' := [(4, .long (dr_next (dr_next x))), (8, .int (nI (dr_ix (dr_next x) (sc 3)))), (7, .int (nI k)), (6, .int (nI mm)), (0, .ref ob), (3, .int (nI tz))]) hx hb d_Model_play_71 hl (by decide) rfl (fun ls hl => ?_)
            refine lv_lload hx hb d_Model_play_73 (lv_at hl 0 rfl) ?_
            refine lv_bipush (v := 33) hx hb d_Model_play_75 (by decide) ?_
            refine lv_lushr (v := ((dr_next (dr_next x)).toUInt64 >>> ((33 : Int32).toInt64.toUInt64 &&& Int64.toUInt64 63)).toInt64) hx hb d_Model_play_77 rfl ?_
            refine lv_aload_n hx hb d_Model_play_78 rfl (lv_at hl 4 rfl) ?_
            refine va_get (D := G.1) (ci := 7) (v := .int (nI (sc 3))) (C := R_Model) (T := F_Model) (N := 23) hx hb ht i_Model hown hK.1 hP 0 rfl rfl 13 (by decide) (ht _ m_518) (fun _ h9 => h9) rfl d_Model_play_79 ?_
            refine lv_i2l (v := (nI (sc 3)).toInt64) hx hb d_Model_play_82 rfl ?_
            refine lv_lrem hx hb d_Model_play_83 (by rw [nI_l (by omega)]; intro q9; have := (lN_eq (by omega) (by omega)).mp (show lN (sc 3) = lN 0 from q9); omega) ?_
            refine lv_l2i (v := ((((dr_next (dr_next x)).toUInt64 >>> ((33 : Int32).toInt64.toUInt64 &&& Int64.toUInt64 63)).toInt64) - (((dr_next (dr_next x)).toUInt64 >>> ((33 : Int32).toInt64.toUInt64 &&& Int64.toUInt64 63)).toInt64) / ((nI (sc 3)).toInt64) * ((nI (sc 3)).toInt64)).toInt32) hx hb d_Model_play_84 rfl ?_
            refine sy_ti (y := nI (dr_ix (dr_next (dr_next x)) (sc 3))) (dr_eq (by omega) (by omega)) ?_
            have hd85 : dr_ix (dr_next (dr_next x)) (sc 3) < sc 3 := Nat.mod_lt _ (by omega)
            refine lv_istore (lv' := [(9, .int (nI (dr_ix (dr_next (dr_next x)) (sc 3)))), (4, .long (dr_next (dr_next x))), (8, .int (nI (dr_ix (dr_next x) (sc 3)))), (7, .int (nI k)), (6, .int (nI mm)), (0, .ref ob), (3, .int (nI tz))]) hx hb d_Model_play_85 hl (by decide) rfl (fun ls hl => ?_)
            refine lv_iload hx hb d_Model_play_87 (lv_at hl 2 rfl) ?_
            refine lv_iload hx hb d_Model_play_89 (lv_at hl 0 rfl) ?_
            refine lv_icmp_eq (tgt := 115) hx hb d_Model_play_91 (by decide) (fun c_5 => ?_) (fun c_5 => ?_)
            · have c_5 : (dr_ix (dr_next x) (sc 3)) = (dr_ix (dr_next (dr_next x)) (sc 3)) := (nI_eq (a := dr_ix (dr_next x) (sc 3)) (b := dr_ix (dr_next (dr_next x)) (sc 3)) (by omega) (by omega)).mp c_5
              refine lv_iinc (v := nI (k + 1)) (lv' := [(7, .int (nI (k + 1))), (9, .int (nI (dr_ix (dr_next (dr_next x)) (sc 3)))), (4, .long (dr_next (dr_next x))), (8, .int (nI (dr_ix (dr_next x) (sc 3)))), (6, .int (nI mm)), (0, .ref ob), (3, .int (nI tz))]) hx hb d_Model_play_115 hl (k := 3) rfl (nI_add k 1) (by decide) rfl (fun ls hl => ?_)
              refine lv_goto (tgt := 29) hx hb d_Model_play_118 (by decide) ?_
              refine ih29 (k + 1, dr_next (dr_next x), mm, I, L, Z) _ _ ls (show tz - (k + 1) < tz - k by omega) ?_ (lv_sub hl [0, 2, 4, 5, 6] rfl)
              exact ⟨by omega, by omega, by rw [mo_pl, ← hI]; simp [mo_pn, c_4, c_4n, c_5], hP, hD, hS⟩
            · have c_5 : ¬ (dr_ix (dr_next x) (sc 3)) = (dr_ix (dr_next (dr_next x)) (sc 3)) := fun h9 => c_5 ((nI_eq (a := dr_ix (dr_next x) (sc 3)) (b := dr_ix (dr_next (dr_next x)) (sc 3)) (by omega) (by omega)).mpr h9)
              refine lv_iload hx hb d_Model_play_94 (lv_at hl 4 rfl) ?_
              refine lv_aload_n hx hb d_Model_play_96 rfl (lv_at hl 5 rfl) ?_
              refine lv_iload hx hb d_Model_play_97 (lv_at hl 2 rfl) ?_
              refine lv_iload hx hb d_Model_play_99 (lv_at hl 0 rfl) ?_
              refine va_calli (sy_runV (As := [.int (nI (dr_ix (dr_next x) (sc 3))), .int (nI (dr_ix (dr_next (dr_next x)) (sc 3)))]) (rest := [.int (nI mm)]) (b := ob) ⟨hx, hb, hml, hown, ht⟩ cl_Model_99 (c_Model_joinTo l G ob ad sc I L Z (dr_ix (dr_next x) (sc 3)) (dr_ix (dr_next (dr_next x)) (sc 3)) (by omega) (by omega)) hK ⟨hP, sy_any hD⟩ (va_recv hK.1 hP (ci := 7) (q0 := 0) rfl rfl) rfl nm_Model_joinTo rfl rfl ⟨Nat.le_of_ble_eq_true rfl, Nat.le_of_ble_eq_true rfl⟩ hl.1 (Nat.le_of_ble_eq_true rfl) d_Model_play_101 ⟨Nat.zero_le _, Nat.zero_le _⟩) hS (fun q _ h => sy_in hD h) (fun q h => sy_in hD h) (fun r_6 u_7 t9 H locs ht9 hvm9 hw9 hB9 hz9 hk9 hS => ?_)
              obtain ⟨hr_6, hu_7⟩ := hw9
              subst hr_6
              subst hu_7
              rw [ht9] at hB9
              have hP : va_P G.1 classes (mw G.2 ob ad (mo_joinTo sc I L Z (dr_ix (dr_next x) (sc 3)) (dr_ix (dr_next (dr_next x)) (sc 3))).2.1 (mo_joinTo sc I L Z (dr_ix (dr_next x) (sc 3)) (dr_ix (dr_next (dr_next x)) (sc 3))).2.2.1 (mo_joinTo sc I L Z (dr_ix (dr_next x) (sc 3)) (dr_ix (dr_next (dr_next x)) (sc 3))).2.2.2.1 (mo_joinTo sc I L Z (dr_ix (dr_next x) (sc 3)) (dr_ix (dr_next (dr_next x)) (sc 3))).2.2.2.2) H := hB9
              have hD : va_D A (mw G.2 ob ad (mo_joinTo sc I L Z (dr_ix (dr_next x) (sc 3)) (dr_ix (dr_next (dr_next x)) (sc 3))).2.1 (mo_joinTo sc I L Z (dr_ix (dr_next x) (sc 3)) (dr_ix (dr_next (dr_next x)) (sc 3))).2.2.1 (mo_joinTo sc I L Z (dr_ix (dr_next x) (sc 3)) (dr_ix (dr_next (dr_next x)) (sc 3))).2.2.2.1 (mo_joinTo sc I L Z (dr_ix (dr_next x) (sc 3)) (dr_ix (dr_next (dr_next x)) (sc 3))).2.2.2.2) := sy_Da hD rfl
              refine lv_if_eq (tgt := 111) hx hb d_Model_play_104 (by decide) (fun c_8 => ?_) (fun c_8 => ?_)
              · have c_8 : ((mo_joinTo sc I L Z (dr_ix (dr_next x) (sc 3)) (dr_ix (dr_next (dr_next x)) (sc 3))).1) = false := bI_f c_8
                refine lv_iconst (v := 0) hx hb d_Model_play_111 (by decide) ?_
                refine lv_iadd hx hb d_Model_play_112 ?_
                refine sy_ti (y := nI (mm + 0)) (nI_add mm 0) ?_
                refine lv_istore (lv' := [(6, .int (nI (mm + 0))), (9, .int (nI (dr_ix (dr_next (dr_next x)) (sc 3)))), (4, .long (dr_next (dr_next x))), (8, .int (nI (dr_ix (dr_next x) (sc 3)))), (7, .int (nI k)), (0, .ref ob), (3, .int (nI tz))]) hx hb d_Model_play_113 hl (by decide) rfl (fun ls hl => ?_)
                refine lv_iinc (v := nI (k + 1)) (lv' := [(7, .int (nI (k + 1))), (6, .int (nI (mm + 0))), (9, .int (nI (dr_ix (dr_next (dr_next x)) (sc 3)))), (4, .long (dr_next (dr_next x))), (8, .int (nI (dr_ix (dr_next x) (sc 3)))), (0, .ref ob), (3, .int (nI tz))]) hx hb d_Model_play_115 hl (k := 4) rfl (nI_add k 1) (by decide) rfl (fun ls hl => ?_)
                refine lv_goto (tgt := 29) hx hb d_Model_play_118 (by decide) ?_
                refine ih29 (k + 1, dr_next (dr_next x), mm + 0, (mo_joinTo sc I L Z (dr_ix (dr_next x) (sc 3)) (dr_ix (dr_next (dr_next x)) (sc 3))).2.2.1, (mo_joinTo sc I L Z (dr_ix (dr_next x) (sc 3)) (dr_ix (dr_next (dr_next x)) (sc 3))).2.2.2.1, (mo_joinTo sc I L Z (dr_ix (dr_next x) (sc 3)) (dr_ix (dr_next (dr_next x)) (sc 3))).2.2.2.2) _ _ ls (show tz - (k + 1) < tz - k by omega) ?_ (lv_sub hl [0, 3, 1, 5, 6] rfl)
                exact ⟨by omega, by omega, by rw [mo_pl, ← hI]; simp [mo_pn, c_4, c_4n, c_5, c_8], hP, hD, hS⟩
              · have c_8 : ((mo_joinTo sc I L Z (dr_ix (dr_next x) (sc 3)) (dr_ix (dr_next (dr_next x)) (sc 3))).1) = true := bI_t c_8
                refine lv_iconst (v := 1) hx hb d_Model_play_107 (by decide) ?_
                refine lv_goto (tgt := 112) hx hb d_Model_play_108 (by decide) ?_
                refine lv_iadd hx hb d_Model_play_112 ?_
                refine sy_ti (y := nI (mm + 1)) (nI_add mm 1) ?_
                refine lv_istore (lv' := [(6, .int (nI (mm + 1))), (9, .int (nI (dr_ix (dr_next (dr_next x)) (sc 3)))), (4, .long (dr_next (dr_next x))), (8, .int (nI (dr_ix (dr_next x) (sc 3)))), (7, .int (nI k)), (0, .ref ob), (3, .int (nI tz))]) hx hb d_Model_play_113 hl (by decide) rfl (fun ls hl => ?_)
                refine lv_iinc (v := nI (k + 1)) (lv' := [(7, .int (nI (k + 1))), (6, .int (nI (mm + 1))), (9, .int (nI (dr_ix (dr_next (dr_next x)) (sc 3)))), (4, .long (dr_next (dr_next x))), (8, .int (nI (dr_ix (dr_next x) (sc 3)))), (0, .ref ob), (3, .int (nI tz))]) hx hb d_Model_play_115 hl (k := 4) rfl (nI_add k 1) (by decide) rfl (fun ls hl => ?_)
                refine lv_goto (tgt := 29) hx hb d_Model_play_118 (by decide) ?_
                refine ih29 (k + 1, dr_next (dr_next x), mm + 1, (mo_joinTo sc I L Z (dr_ix (dr_next x) (sc 3)) (dr_ix (dr_next (dr_next x)) (sc 3))).2.2.1, (mo_joinTo sc I L Z (dr_ix (dr_next x) (sc 3)) (dr_ix (dr_next (dr_next x)) (sc 3))).2.2.2.1, (mo_joinTo sc I L Z (dr_ix (dr_next x) (sc 3)) (dr_ix (dr_next (dr_next x)) (sc 3))).2.2.2.2) _ _ ls (show tz - (k + 1) < tz - k by omega) ?_ (lv_sub hl [0, 3, 1, 5, 6] rfl)
                exact ⟨by omega, by omega, by rw [mo_pl, ← hI]; simp [mo_pn, c_4, c_4n, c_5, c_8], hP, hD, hS⟩
        · exact ⟨Nat.zero_le _, Nat.le_refl _, rfl, hP, hD, hS⟩
      · have c_3n := sy_d32 c_3
        refine lv_iconst (v := (-1)) hx hb d_Model_play_18 (by decide) ?_
        exact W.iret (v := (-1 : Int32)) hx hb hr (fun t ht hW => ⟨⟨(-1 : Int32), (sc, mI, mL, mZ), rfl, by first | (constructor <;> simp [mo_play, c_1, c_2, c_2n, c_3, c_3n]; done) | (have e : k = tz := (by omega); rw [e] at hI; constructor <;> (rw [mo_play, if_neg (by simp [c_1, c_2, c_2n, c_3, c_3n]; done), hctz, ← hI])), by show va_P _ _ _ t.heap; rw [ht]; exact hP⟩, hS.F ht⟩) hS.2.2 d_Model_play_19
