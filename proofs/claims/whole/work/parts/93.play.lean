set_option maxHeartbeats 4000000 in
set_option maxRecDepth 100000 in
theorem s_play (l : Launch) (G : sy_G) (g : Nat → Nat) (cx : cs) (hb9 : cs_b cx) (sd : Int64) (tn : Int32) : Met l y_DeviceSets_play (sy_w y_DeviceSets_play b_DeviceSets_play 10 (some .int)) { frames := 4, cells := 0, slots := 0, locals := 91 } (va_Pc [.ref (g 0), .long sd, .int tn] (sy_KP G (sy_Sp G g cx))) (va_Qi (S := cs) (fun r u => r = (x_play cx sd tn).1 ∧ u = (x_play cx sd tn).2) (fun u t => sys_P G g u t.heap) (sys_A G g cx)) 0 0 (sys_A G g cx) := by
  obtain ⟨hd, hs, hn, hc, hm, hb4⟩ := hb9
  refine Met.ofW (cc := b_DeviceSets_play) (maxL := 10) (ret := (some .int)) (by decide) rfl ?_
  intro p e s m args below meth c s₁ B hml hv
  obtain ⟨rfl, ⟨hSP, hSD0⟩, hK⟩ := hv
  have hx := B.exec
  have hb := B.bytes
  have hr := B.returns
  have hts := atoms_spec (ws := sy_w y_DeviceSets_play b_DeviceSets_play 10 (some .int)) B.pre
  have ht : ∀ wd ∈ sy_T, wd.before ([.ref (g 0), .long sd, .int tn] : List Value).toArray s = true := fun wd h => hts wd (List.mem_cons_of_mem _ h)
  have hown : s.vm.findClass R_DeviceSets = some m.cls := findClass_of_methodNamed B.named
  have hlocks := B.notSynchronized
  have hSD := ss_selfD hSD0
  generalize hAe : sys_A G g cx = A at hSD ⊢
  have hS : va_S A s.heap s.heap [] := va_S.rf
  have hl := lv_entry ([.ref (g 0), .long sd, .int tn]) (n := 10) (Nat.le_of_ble_eq_true rfl)
  rw [lg_entry_eq]
  generalize (lg_sl ([.ref (g 0), .long sd, .int tn]) ++ List.replicate (10 - (lg_sl ([.ref (g 0), .long sd, .int tn])).length) Slot.unset).toArray = ls at hl ⊢
  have hl : lv_has ls 10 [(0, .ref (g 0)), (1, .long sd), (3, .int tn)] := hl
  refine lv_aload_n hx hb d_DeviceSets_play_0 rfl (lv_at hl 0 rfl) ?_
  refine va_get (D := G.1) (ci := 0) (v := .int (nI cx.ns)) (C := R_DeviceSets) (T := F_DeviceSets) (N := 7) hx hb ht i_DeviceSets hown hK.1 (sys_x hSP) 0 rfl rfl 5 (by decide) (ht _ m_118) (fun _ h9 => h9) rfl d_DeviceSets_play_1 ?_
  refine lv_if_eq (tgt := 18) hx hb d_DeviceSets_play_4 (by decide) (fun c_1 => ?_) (fun c_1 => ?_)
  · have c_1 : cx.ns = 0 := (nI_eq (by omega) (by omega)).mp (c_1.trans nI_0.symm)
    refine lv_iconst (v := (-1)) hx hb d_DeviceSets_play_18 (by decide) ?_
    exact W.iret (v := (-1 : Int32)) hx hb hr (fun t ht hW => ⟨⟨(-1 : Int32), cx, rfl, by first | (constructor <;> simp [x_play, c_1]; done) | (have e : k = tz := (by omega); rw [e] at hI; constructor <;> (rw [x_play, if_neg (by simp [c_1]; done), hctz, ← hI])), by show sys_P _ _ _ t.heap; rw [ht]; exact hSP⟩, hS.F ht⟩) hS.2.2 d_DeviceSets_play_19
  · have c_1 : ¬ cx.ns = 0 := fun h9 => c_1 (by rw [h9]; exact nI_0)
    refine lv_iload_n hx hb d_DeviceSets_play_7 rfl (lv_at hl 2 rfl) ?_
    refine lv_if_lt (tgt := 18) hx hb d_DeviceSets_play_8 (by decide) (fun c_2 => ?_) (fun c_2 => ?_)
    · have c_2n := sy_a32 c_2
      refine lv_iconst (v := (-1)) hx hb d_DeviceSets_play_18 (by decide) ?_
      exact W.iret (v := (-1 : Int32)) hx hb hr (fun t ht hW => ⟨⟨(-1 : Int32), cx, rfl, by first | (constructor <;> simp [x_play, c_1, c_2, c_2n]; done) | (have e : k = tz := (by omega); rw [e] at hI; constructor <;> (rw [x_play, if_neg (by simp [c_1, c_2, c_2n]; done), hctz, ← hI])), by show sys_P _ _ _ t.heap; rw [ht]; exact hSP⟩, hS.F ht⟩) hS.2.2 d_DeviceSets_play_19
    · have c_2n := sy_b32 c_2
      refine lv_iload_n hx hb d_DeviceSets_play_11 rfl (lv_at hl 2 rfl) ?_
      refine lv_sipush (v := 1000) hx hb d_DeviceSets_play_12 (by decide) ?_
      refine lv_icmp_le (tgt := 20) hx hb d_DeviceSets_play_15 (by decide) (fun c_3 => ?_) (fun c_3 => ?_)
      · have c_3n := sy_c32 c_3
        obtain ⟨tz, htz, etz⟩ := nI_of2 (x := tn) (M := 1000) (n := 1000) (by decide) (by assumption) (by assumption)
        have hctz : tn.toNatClampNeg = tz := by rw [etz]; exact nI_clamp (by omega)
        have hl : lv_has ls 10 [(0, .ref (g 0)), (1, .long sd), (3, .int (nI tz))] := by rw [← etz]; exact hl
        refine lv_lload_n hx hb d_DeviceSets_play_20 rfl (lv_at hl 1 rfl) ?_
        refine lv_lstore (lv' := [(4, .long sd), (0, .ref (g 0)), (1, .long sd), (3, .int (nI tz))]) hx hb d_DeviceSets_play_21 hl (by decide) rfl (fun ls hl => ?_)
        refine lv_iconst (v := 0) hx hb d_DeviceSets_play_23 (by decide) ?_
        refine lv_istore (lv' := [(6, .int 0), (4, .long sd), (0, .ref (g 0)), (1, .long sd), (3, .int (nI tz))]) hx hb d_DeviceSets_play_24 hl (by decide) rfl (fun ls hl => ?_)
        refine lv_iconst (v := 0) hx hb d_DeviceSets_play_26 (by decide) ?_
        refine lv_istore (lv' := [(7, .int 0), (6, .int 0), (4, .long sd), (0, .ref (g 0)), (1, .long sd), (3, .int (nI tz))]) hx hb d_DeviceSets_play_27 hl (by decide) rfl (fun ls hl => ?_)
        refine sy_loopH (σ := Nat × Int64 × Nat × cs) (nL := 10) (fun x29 => match x29 with | (k, x, mm, cy) => tz - k) (fun x29 => match x29 with | (k, x, mm, cy) => [(7, .int (nI k)), (4, .long x), (6, .int (nI mm)), (0, .ref (g 0)), (3, .int (nI tz))]) (fun x29 H locs => match x29 with | (k, x, mm, cy) => k ≤ tz ∧ mm ≤ k ∧ (x, mm, cy) = x_pl cx sd k ∧ sys_P G g cy H ∧ sys_D A G g cy ∧ va_S A s.heap H locs ∧ cy.ns = cx.ns) ?_ (0, sd, 0, cx) ?_ (lv_sub hl [0, 2, 1, 3, 5] rfl)
        · intro x29 H locs ls hI hl ih29
          obtain ⟨k, x, mm, cy⟩ := x29
          have hl : lv_has ls 10 [(7, .int (nI k)), (4, .long x), (6, .int (nI mm)), (0, .ref (g 0)), (3, .int (nI tz))] := hl
          obtain ⟨hk, hmm, hI, hSP, hSD, hS, hcn⟩ := hI
          refine lv_iload hx hb d_DeviceSets_play_29 (lv_at hl 0 rfl) ?_
          refine lv_iload_n hx hb d_DeviceSets_play_31 rfl (lv_at hl 4 rfl) ?_
          refine lv_icmp_ge (tgt := 104) hx hb d_DeviceSets_play_32 (by decide) (fun c_4 => ?_) (fun c_4 => ?_)
          · have c_4 : tz ≤ k := (nI_leI (a := tz) (b := k) (by omega) (by omega)).mp c_4
            have c_4n : ¬ k < tz := by omega
            refine lv_iload hx hb d_DeviceSets_play_104 (lv_at hl 2 rfl) ?_
            exact W.iret (v := nI mm) hx hb hr (fun t ht hW => ⟨⟨nI mm, cy, rfl, by first | (constructor <;> simp [x_play, c_1, c_2, c_2n, c_3, c_3n, c_4, c_4n]; done) | (have e : k = tz := (by omega); rw [e] at hI; constructor <;> (rw [x_play, if_neg (by simp [c_1, c_2, c_2n, c_3, c_3n, c_4, c_4n]; done), hctz, ← hI])), by show sys_P _ _ _ t.heap; rw [ht]; exact hSP⟩, hS.F ht⟩) hS.2.2 d_DeviceSets_play_106
          · have c_4 : ¬ tz ≤ k := fun h9 => c_4 ((nI_leI (a := tz) (b := k) (by omega) (by omega)).mpr h9)
            have c_4n : k < tz := by omega
            refine lv_lload hx hb d_DeviceSets_play_35 (lv_at hl 1 rfl) ?_
            refine vp_callSl (va_Run.run (sy_runS (As := [.long x]) (rest := []) ⟨hx, hb, hml, hown, ht⟩ cl_DeviceSets_221 (c_DeviceSets_nextDraw l G x) hK trivial rfl nm_DeviceSets_nextDraw rfl rfl ⟨Nat.le_of_ble_eq_true rfl, Nat.le_of_ble_eq_true rfl⟩ hl.1 (Nat.le_of_ble_eq_true rfl) d_DeviceSets_play_37 ⟨Nat.zero_le _, Nat.zero_le _⟩)) (fun r_5 hr_5 => ?_)
            subst hr_5
            refine lv_lstore (lv' := [(4, .long (dr_next x)), (7, .int (nI k)), (6, .int (nI mm)), (0, .ref (g 0)), (3, .int (nI tz))]) hx hb d_DeviceSets_play_40 hl (by decide) rfl (fun ls hl => ?_)
            refine lv_lload hx hb d_DeviceSets_play_42 (lv_at hl 0 rfl) ?_
            refine lv_bipush (v := 33) hx hb d_DeviceSets_play_44 (by decide) ?_
            refine lv_lushr (v := ((dr_next x).toUInt64 >>> ((33 : Int32).toInt64.toUInt64 &&& Int64.toUInt64 63)).toInt64) hx hb d_DeviceSets_play_46 rfl ?_
            refine lv_aload_n hx hb d_DeviceSets_play_47 rfl (lv_at hl 3 rfl) ?_
            refine va_get (D := G.1) (ci := 0) (v := .int (nI cy.ns)) (C := R_DeviceSets) (T := F_DeviceSets) (N := 7) hx hb ht i_DeviceSets hown hK.1 (sys_x hSP) 0 rfl rfl 5 (by decide) (ht _ m_118) (fun _ h9 => h9) rfl d_DeviceSets_play_48 ?_
            refine lv_i2l (v := (nI cy.ns).toInt64) hx hb d_DeviceSets_play_51 rfl ?_
            refine lv_lrem hx hb d_DeviceSets_play_52 (by rw [nI_l (by omega)]; intro q9; have := (lN_eq (by omega) (by omega)).mp (show lN cy.ns = lN 0 from q9); omega) ?_
            refine lv_l2i (v := ((((dr_next x).toUInt64 >>> ((33 : Int32).toInt64.toUInt64 &&& Int64.toUInt64 63)).toInt64) - (((dr_next x).toUInt64 >>> ((33 : Int32).toInt64.toUInt64 &&& Int64.toUInt64 63)).toInt64) / ((nI cy.ns).toInt64) * ((nI cy.ns).toInt64)).toInt32) hx hb d_DeviceSets_play_53 rfl ?_
            refine sy_ti (y := nI (dr_ix (dr_next x) cy.ns)) (dr_eq (by omega) (by omega)) ?_
            have hd54 : dr_ix (dr_next x) cy.ns < cy.ns := Nat.mod_lt _ (by omega)
            refine lv_istore (lv' := [(8, .int (nI (dr_ix (dr_next x) cy.ns))), (4, .long (dr_next x)), (7, .int (nI k)), (6, .int (nI mm)), (0, .ref (g 0)), (3, .int (nI tz))]) hx hb d_DeviceSets_play_54 hl (by decide) rfl (fun ls hl => ?_)
            refine lv_lload hx hb d_DeviceSets_play_56 (lv_at hl 1 rfl) ?_
            refine vp_callSl (va_Run.run (sy_runS (As := [.long (dr_next x)]) (rest := []) ⟨hx, hb, hml, hown, ht⟩ cl_DeviceSets_221 (c_DeviceSets_nextDraw l G (dr_next x)) hK trivial rfl nm_DeviceSets_nextDraw rfl rfl ⟨Nat.le_of_ble_eq_true rfl, Nat.le_of_ble_eq_true rfl⟩ hl.1 (Nat.le_of_ble_eq_true rfl) d_DeviceSets_play_58 ⟨Nat.zero_le _, Nat.zero_le _⟩)) (fun r_6 hr_6 => ?_)
            subst hr_6
            refine lv_lstore (lv' := [(4, .long (dr_next (dr_next x))), (8, .int (nI (dr_ix (dr_next x) cy.ns))), (7, .int (nI k)), (6, .int (nI mm)), (0, .ref (g 0)), (3, .int (nI tz))]) hx hb d_DeviceSets_play_61 hl (by decide) rfl (fun ls hl => ?_)
            refine lv_lload hx hb d_DeviceSets_play_63 (lv_at hl 0 rfl) ?_
            refine lv_bipush (v := 33) hx hb d_DeviceSets_play_65 (by decide) ?_
            refine lv_lushr (v := ((dr_next (dr_next x)).toUInt64 >>> ((33 : Int32).toInt64.toUInt64 &&& Int64.toUInt64 63)).toInt64) hx hb d_DeviceSets_play_67 rfl ?_
            refine lv_aload_n hx hb d_DeviceSets_play_68 rfl (lv_at hl 4 rfl) ?_
            refine va_get (D := G.1) (ci := 0) (v := .int (nI cy.ns)) (C := R_DeviceSets) (T := F_DeviceSets) (N := 7) hx hb ht i_DeviceSets hown hK.1 (sys_x hSP) 0 rfl rfl 5 (by decide) (ht _ m_118) (fun _ h9 => h9) rfl d_DeviceSets_play_69 ?_
            refine lv_i2l (v := (nI cy.ns).toInt64) hx hb d_DeviceSets_play_72 rfl ?_
            refine lv_lrem hx hb d_DeviceSets_play_73 (by rw [nI_l (by omega)]; intro q9; have := (lN_eq (by omega) (by omega)).mp (show lN cy.ns = lN 0 from q9); omega) ?_
            refine lv_l2i (v := ((((dr_next (dr_next x)).toUInt64 >>> ((33 : Int32).toInt64.toUInt64 &&& Int64.toUInt64 63)).toInt64) - (((dr_next (dr_next x)).toUInt64 >>> ((33 : Int32).toInt64.toUInt64 &&& Int64.toUInt64 63)).toInt64) / ((nI cy.ns).toInt64) * ((nI cy.ns).toInt64)).toInt32) hx hb d_DeviceSets_play_74 rfl ?_
            refine sy_ti (y := nI (dr_ix (dr_next (dr_next x)) cy.ns)) (dr_eq (by omega) (by omega)) ?_
            have hd75 : dr_ix (dr_next (dr_next x)) cy.ns < cy.ns := Nat.mod_lt _ (by omega)
            refine lv_istore (lv' := [(9, .int (nI (dr_ix (dr_next (dr_next x)) cy.ns))), (4, .long (dr_next (dr_next x))), (8, .int (nI (dr_ix (dr_next x) cy.ns))), (7, .int (nI k)), (6, .int (nI mm)), (0, .ref (g 0)), (3, .int (nI tz))]) hx hb d_DeviceSets_play_75 hl (by decide) rfl (fun ls hl => ?_)
            refine lv_iload hx hb d_DeviceSets_play_77 (lv_at hl 2 rfl) ?_
            refine lv_iload hx hb d_DeviceSets_play_79 (lv_at hl 0 rfl) ?_
            refine lv_icmp_eq (tgt := 98) hx hb d_DeviceSets_play_81 (by decide) (fun c_7 => ?_) (fun c_7 => ?_)
            · have c_7 : (dr_ix (dr_next x) cy.ns) = (dr_ix (dr_next (dr_next x)) cy.ns) := (nI_eq (a := dr_ix (dr_next x) cy.ns) (b := dr_ix (dr_next (dr_next x)) cy.ns) (by omega) (by omega)).mp c_7
              refine lv_iinc (v := nI (k + 1)) (lv' := [(7, .int (nI (k + 1))), (9, .int (nI (dr_ix (dr_next (dr_next x)) cy.ns))), (4, .long (dr_next (dr_next x))), (8, .int (nI (dr_ix (dr_next x) cy.ns))), (6, .int (nI mm)), (0, .ref (g 0)), (3, .int (nI tz))]) hx hb d_DeviceSets_play_98 hl (k := 3) rfl (nI_add k 1) (by decide) rfl (fun ls hl => ?_)
              refine lv_goto (tgt := 29) hx hb d_DeviceSets_play_101 (by decide) ?_
              refine ih29 (k + 1, dr_next (dr_next x), mm, cy) _ _ ls (show tz - (k + 1) < tz - k by omega) ?_ (lv_sub hl [0, 2, 4, 5, 6] rfl)
              exact ⟨by omega, by omega, by rw [x_pl, ← hI]; simp [x_pn, c_4, c_4n, c_7], hSP, hSD, hS, hcn⟩
            · have c_7 : ¬ (dr_ix (dr_next x) cy.ns) = (dr_ix (dr_next (dr_next x)) cy.ns) := fun h9 => c_7 ((nI_eq (a := dr_ix (dr_next x) cy.ns) (b := dr_ix (dr_next (dr_next x)) cy.ns) (by omega) (by omega)).mpr h9)
              refine lv_aload_n hx hb d_DeviceSets_play_84 rfl (lv_at hl 5 rfl) ?_
              refine lv_iload hx hb d_DeviceSets_play_85 (lv_at hl 2 rfl) ?_
              refine lv_iload hx hb d_DeviceSets_play_87 (lv_at hl 0 rfl) ?_
              refine va_calli (sy_runV (As := [.int (nI (dr_ix (dr_next x) cy.ns)), .int (nI (dr_ix (dr_next (dr_next x)) cy.ns))]) (rest := []) (b := g 0) ⟨hx, hb, hml, hown, ht⟩ cl_DeviceSets_224 (s_joinChanges l G g cy (by omega) (dr_ix (dr_next x) cy.ns) (dr_ix (dr_next (dr_next x)) cy.ns) (by omega) (by omega) (by assumption)) hK ⟨hSP, ss_anyD hSD⟩ (va_recv hK.1 (sys_x hSP) (ci := 0) (q0 := 0) rfl rfl) rfl nm_DeviceSets_joinChanges rfl rfl ⟨Nat.le_of_ble_eq_true rfl, Nat.le_of_ble_eq_true rfl⟩ hl.1 (Nat.le_of_ble_eq_true rfl) d_DeviceSets_play_89 ⟨Nat.zero_le _, Nat.zero_le _⟩) hS (fun q _ h => ss_in hSD h) (fun q h => ss_in hSD h) (fun r_8 u_9 t9 H9 locs ht9 hvm9 hw9 hB9 hz9 hk9 hS => ?_)
              obtain ⟨hr_8, hu_9⟩ := hw9
              subst hr_8
              subst hu_9
              rw [ht9] at hB9
              have hSP : sys_P G g (x_bring cy (dr_ix (dr_next x) cy.ns) (dr_ix (dr_next (dr_next x)) cy.ns)).2 H9 := hB9
              have hSD : sys_D A G g (x_bring cy (dr_ix (dr_next x) cy.ns) (dr_ix (dr_next (dr_next x)) cy.ns)).2 := ss_setD hSD (fun i => ca_z i)
              generalize H9 = H at hSP hS ⊢
              refine sy_ti (y := bI (x_bring cy (dr_ix (dr_next x) cy.ns) (dr_ix (dr_next (dr_next x)) cy.ns)).1) rfl ?_
              refine lv_if_eq (tgt := 98) hx hb d_DeviceSets_play_92 (by decide) (fun c_10 => ?_) (fun c_10 => ?_)
              · have c_10 : ((x_bring cy (dr_ix (dr_next x) cy.ns) (dr_ix (dr_next (dr_next x)) cy.ns)).1) = false := bI_f c_10
                refine lv_iinc (v := nI (k + 1)) (lv' := [(7, .int (nI (k + 1))), (9, .int (nI (dr_ix (dr_next (dr_next x)) cy.ns))), (4, .long (dr_next (dr_next x))), (8, .int (nI (dr_ix (dr_next x) cy.ns))), (6, .int (nI mm)), (0, .ref (g 0)), (3, .int (nI tz))]) hx hb d_DeviceSets_play_98 hl (k := 3) rfl (nI_add k 1) (by decide) rfl (fun ls hl => ?_)
                refine lv_goto (tgt := 29) hx hb d_DeviceSets_play_101 (by decide) ?_
                refine ih29 (k + 1, dr_next (dr_next x), mm, (x_bring cy (dr_ix (dr_next x) cy.ns) (dr_ix (dr_next (dr_next x)) cy.ns)).2) _ _ ls (show tz - (k + 1) < tz - k by omega) ?_ (lv_sub hl [0, 2, 4, 5, 6] rfl)
                exact ⟨by omega, by omega, by rw [x_pl, ← hI]; simp [x_pn, c_4, c_4n, c_7, c_10], hSP, hSD, hS, hcn⟩
              · have c_10 : ((x_bring cy (dr_ix (dr_next x) cy.ns) (dr_ix (dr_next (dr_next x)) cy.ns)).1) = true := bI_t c_10
                refine lv_iinc (v := nI (mm + 1)) (lv' := [(6, .int (nI (mm + 1))), (9, .int (nI (dr_ix (dr_next (dr_next x)) cy.ns))), (4, .long (dr_next (dr_next x))), (8, .int (nI (dr_ix (dr_next x) cy.ns))), (7, .int (nI k)), (0, .ref (g 0)), (3, .int (nI tz))]) hx hb d_DeviceSets_play_95 hl (k := 4) rfl (nI_add mm 1) (by decide) rfl (fun ls hl => ?_)
                refine lv_iinc (v := nI (k + 1)) (lv' := [(7, .int (nI (k + 1))), (6, .int (nI (mm + 1))), (9, .int (nI (dr_ix (dr_next (dr_next x)) cy.ns))), (4, .long (dr_next (dr_next x))), (8, .int (nI (dr_ix (dr_next x) cy.ns))), (0, .ref (g 0)), (3, .int (nI tz))]) hx hb d_DeviceSets_play_98 hl (k := 4) rfl (nI_add k 1) (by decide) rfl (fun ls hl => ?_)
                refine lv_goto (tgt := 29) hx hb d_DeviceSets_play_101 (by decide) ?_
                refine ih29 (k + 1, dr_next (dr_next x), mm + 1, (x_bring cy (dr_ix (dr_next x) cy.ns) (dr_ix (dr_next (dr_next x)) cy.ns)).2) _ _ ls (show tz - (k + 1) < tz - k by omega) ?_ (lv_sub hl [0, 3, 1, 5, 6] rfl)
                exact ⟨by omega, by omega, by rw [x_pl, ← hI]; simp [x_pn, c_4, c_4n, c_7, c_10], hSP, hSD, hS, hcn⟩
        · exact ⟨Nat.zero_le _, Nat.le_refl _, rfl, hSP, hSD, hS, rfl⟩
      · have c_3n := sy_d32 c_3
        refine lv_iconst (v := (-1)) hx hb d_DeviceSets_play_18 (by decide) ?_
        exact W.iret (v := (-1 : Int32)) hx hb hr (fun t ht hW => ⟨⟨(-1 : Int32), cx, rfl, by first | (constructor <;> simp [x_play, c_1, c_2, c_2n, c_3, c_3n]; done) | (have e : k = tz := (by omega); rw [e] at hI; constructor <;> (rw [x_play, if_neg (by simp [c_1, c_2, c_2n, c_3, c_3n]; done), hctz, ← hI])), by show sys_P _ _ _ t.heap; rw [ht]; exact hSP⟩, hS.F ht⟩) hS.2.2 d_DeviceSets_play_19
