set_option maxHeartbeats 4000000 in
set_option maxRecDepth 100000 in
theorem c_DeviceSets_life (l : Launch) (G : sy_G) (g : Nat → Nat) (nd : Nat) (ns : Nat) (nb : Nat) (nT : Nat) (fI : Nat → Nat → Int32) (fL : Nat → Nat → Int64) (nC : Nat) (gI : Nat → Nat → Int32) (gL : Nat → Nat → Int64) (dl : Nat → Nat) (df : Nat → Int64) (dm : Nat → Nat) (dk : Nat → Nat → Nat → Int64) (so : Nat → Int32) (sh : Nat → Nat → Int64) (sv : Nat → Nat → Int64) (d : Int32) (hd : nd ≤ 4) (hs : ns ≤ 6) (hn : nT ≤ 60) (hc : nC ≤ 20) (hm : ∀ d, d < nd → dm d ≤ 10) : Met l y_DeviceSets_life (sy_w y_DeviceSets_life b_DeviceSets_life 3 (some .int)) { frames := 1, cells := 0, slots := 0, locals := 21 } (va_Pc [.ref (g 0), .int d] (sy_KP G (fun H => (va_P G.1 classes (xw G.2 g nd ns nb)) H ∧ (va_P G.1 classes (tw G.2 (g 3) (fun k => g (4 + k)) nT fI fL)) H ∧ (va_P G.1 classes (cw G.2 (g 11) (fun k => g (12 + k)) nC gI gL)) H ∧ (∀ d, d < nd → va_P G.1 classes (dw G.2 g dl df dm dk d) H) ∧ (∀ j, j < ns → va_P G.1 classes (sw g so sh sv j) H)))) (vp_Si (fun r => r = xm_life nd dl d)) 0 0 (fun _ => False) := by
  refine Met.ofW (cc := b_DeviceSets_life) (maxL := 3) (ret := (some .int)) (by decide) rfl ?_
  intro p e s m args below meth c s₁ B hml hv
  obtain ⟨rfl, ⟨hP, hPT, hPC, hPD, hPS⟩, hK⟩ := hv
  have hx := B.exec
  have hb := B.bytes
  have hr := B.returns
  have hts := atoms_spec (ws := sy_w y_DeviceSets_life b_DeviceSets_life 3 (some .int)) B.pre
  have ht : ∀ wd ∈ sy_T, wd.before ([.ref (g 0), .int d] : List Value).toArray s = true := fun wd h => hts wd (List.mem_cons_of_mem _ h)
  have hown : s.vm.findClass R_DeviceSets = some m.cls := findClass_of_methodNamed B.named
  have hlocks := B.notSynchronized
  have hl := lv_entry ([.ref (g 0), .int d]) (n := 3) (Nat.le_of_ble_eq_true rfl)
  rw [lg_entry_eq]
  generalize (lg_sl ([.ref (g 0), .int d]) ++ List.replicate (3 - (lg_sl ([.ref (g 0), .int d])).length) Slot.unset).toArray = ls at hl ⊢
  have hl : lv_has ls 3 [(0, .ref (g 0)), (1, .int d)] := hl
  refine lv_aload_n hx hb d_DeviceSets_life_0 rfl (lv_at hl 0 rfl) ?_
  refine lv_iload_n hx hb d_DeviceSets_life_1 rfl (lv_at hl 1 rfl) ?_
  refine va_csq (va_Run.run (sy_runV (As := [.int d]) (rest := []) (b := (g 0)) ⟨hx, hb, hml, hown, ht⟩ cl_DeviceSets_40 (c_DeviceSets_deviceAt l G g nd ns nb d (by omega)) hK hP (va_recv hK.1 hP (ci := 0) (q0 := 0) rfl rfl) rfl nm_DeviceSets_deviceAt rfl rfl ⟨Nat.le_of_ble_eq_true rfl, Nat.le_of_ble_eq_true rfl⟩ hl.1 (Nat.le_of_ble_eq_true rfl) d_DeviceSets_life_2 ⟨Nat.zero_le _, Nat.zero_le _⟩)) (fun r_1 hr_1 => ?_)
  by_cases hq_2 : mo_ok nd d = true
  · obtain ⟨zd, hzd, ezd⟩ := mo_ix (by omega) hq_2
    subst ezd
    have hczd : (nI zd).toNatClampNeg = zd := nI_clamp (by omega)
    have hr_1 : r_1 = some (g (20 + 4 * zd)) := by rw [hr_1, xa_at, if_pos hq_2, hczd]
    subst hr_1
    refine sy_tr (y := .ref (g (20 + 4 * zd))) rfl ?_
    have hPzd := hPD zd hzd
    have hKzd : va_P G.1 classes (kw G.2 (g (21 + 4 * zd)) (fun k => g (22 + 4 * zd + k)) (dm zd) (dk zd)) s.heap := hPzd.sub [1, 2, 3] rfl
    refine lv_astore_n (lv' := [(2, .ref (g (20 + 4 * zd))), (0, .ref (g 0)), (1, .int (nI zd))]) hx hb d_DeviceSets_life_5 rfl hl (by decide) rfl (fun ls hl => ?_)
    refine lv_aload_n hx hb d_DeviceSets_life_6 rfl (lv_at hl 0 rfl) ?_
    refine lv_ifnonnull (tgt := 14) hx hb d_DeviceSets_life_7 (by decide) ?_
    refine lv_aload_n hx hb d_DeviceSets_life_14 rfl (lv_at hl 0 rfl) ?_
    refine va_getN (D := G.1) (ci := 1) (v := .int (nI (dl zd))) (C := R_Device) (T := F_Device) (N := 3) hx hb ht i_Device hown hK.1 hPzd 0 rfl rfl 1 (by decide) (va_Nw.use rfl (hK.2 _ m_162)) (fun _ h9 => h9) rfl d_DeviceSets_life_15 ?_
    exact W.iret (v := nI (dl zd)) hx hb hr (fun t ht hW => ⟨nI (dl zd), rfl, by simp [xm_life, hq_2, hczd], ht⟩) (fun q h => by cases h) d_DeviceSets_life_18
  · have hq_2 : mo_ok nd d = false := by simpa using hq_2
    have hr_1 : r_1 = none := by rw [hr_1, xa_at, hq_2]; rfl
    subst hr_1
    refine sy_tr (y := .null) rfl ?_
    refine lv_astore_nN (lv' := [(2, .null), (0, .ref (g 0)), (1, .int d)]) hx hb d_DeviceSets_life_5 rfl hl (by decide) rfl (fun ls hl => ?_)
    refine lv_aload_nN hx hb d_DeviceSets_life_6 rfl (lv_at hl 0 rfl) ?_
    refine lv_ifnonnullN hx hb d_DeviceSets_life_7 ?_
    refine lv_iconst (v := (-1)) hx hb d_DeviceSets_life_10 (by decide) ?_
    refine lv_goto (tgt := 18) hx hb d_DeviceSets_life_11 (by decide) ?_
    exact W.iret (v := (-1 : Int32)) hx hb hr (fun t ht hW => ⟨(-1 : Int32), rfl, by simp [xm_life, hq_2], ht⟩) (fun q h => by cases h) d_DeviceSets_life_18
set_option maxHeartbeats 4000000 in
set_option maxRecDepth 100000 in
theorem c_DeviceSets_last (l : Launch) (G : sy_G) (g : Nat → Nat) (nd : Nat) (ns : Nat) (nb : Nat) (nT : Nat) (fI : Nat → Nat → Int32) (fL : Nat → Nat → Int64) (nC : Nat) (gI : Nat → Nat → Int32) (gL : Nat → Nat → Int64) (dl : Nat → Nat) (df : Nat → Int64) (dm : Nat → Nat) (dk : Nat → Nat → Nat → Int64) (so : Nat → Int32) (sh : Nat → Nat → Int64) (sv : Nat → Nat → Int64) (d : Int32) (dv : Int32) (kd : Int32) (hd : nd ≤ 4) (hs : ns ≤ 6) (hn : nT ≤ 60) (hc : nC ≤ 20) (hm : ∀ d, d < nd → dm d ≤ 10) : Met l y_DeviceSets_last (sy_w y_DeviceSets_last b_DeviceSets_last 6 (some .long)) { frames := 5, cells := 0, slots := 0, locals := 120 } (va_Pc [.ref (g 0), .int d, .int dv, .int kd] (sy_KP G (fun H => (va_P G.1 classes (xw G.2 g nd ns nb)) H ∧ (va_P G.1 classes (tw G.2 (g 3) (fun k => g (4 + k)) nT fI fL)) H ∧ (va_P G.1 classes (cw G.2 (g 11) (fun k => g (12 + k)) nC gI gL)) H ∧ (∀ d, d < nd → va_P G.1 classes (dw G.2 g dl df dm dk d) H) ∧ (∀ j, j < ns → va_P G.1 classes (sw g so sh sv j) H)))) (vp_Sl (fun r => r = xm_last ns nT fI fL sh d dv kd)) 0 0 (fun _ => False) := by
  refine Met.ofW (cc := b_DeviceSets_last) (maxL := 6) (ret := (some .long)) (by decide) rfl ?_
  intro p e s m args below meth c s₁ B hml hv
  obtain ⟨rfl, ⟨hP, hPT, hPC, hPD, hPS⟩, hK⟩ := hv
  have hx := B.exec
  have hb := B.bytes
  have hr := B.returns
  have hts := atoms_spec (ws := sy_w y_DeviceSets_last b_DeviceSets_last 6 (some .long)) B.pre
  have ht : ∀ wd ∈ sy_T, wd.before ([.ref (g 0), .int d, .int dv, .int kd] : List Value).toArray s = true := fun wd h => hts wd (List.mem_cons_of_mem _ h)
  have hown : s.vm.findClass R_DeviceSets = some m.cls := findClass_of_methodNamed B.named
  have hlocks := B.notSynchronized
  have hl := lv_entry ([.ref (g 0), .int d, .int dv, .int kd]) (n := 6) (Nat.le_of_ble_eq_true rfl)
  rw [lg_entry_eq]
  generalize (lg_sl ([.ref (g 0), .int d, .int dv, .int kd]) ++ List.replicate (6 - (lg_sl ([.ref (g 0), .int d, .int dv, .int kd])).length) Slot.unset).toArray = ls at hl ⊢
  have hl : lv_has ls 6 [(0, .ref (g 0)), (1, .int d), (2, .int dv), (3, .int kd)] := hl
  refine lv_aload_n hx hb d_DeviceSets_last_0 rfl (lv_at hl 0 rfl) ?_
  refine lv_iload_n hx hb d_DeviceSets_last_1 rfl (lv_at hl 1 rfl) ?_
  refine va_csq (va_Run.run (sy_runV (As := [.int d]) (rest := []) (b := (g 0)) ⟨hx, hb, hml, hown, ht⟩ cl_DeviceSets_80 (c_DeviceSets_setAt l G g nd ns nb d (by omega)) hK hP (va_recv hK.1 hP (ci := 0) (q0 := 0) rfl rfl) rfl nm_DeviceSets_setAt rfl rfl ⟨Nat.le_of_ble_eq_true rfl, Nat.le_of_ble_eq_true rfl⟩ hl.1 (Nat.le_of_ble_eq_true rfl) d_DeviceSets_last_2 ⟨Nat.zero_le _, Nat.zero_le _⟩)) (fun r_1 hr_1 => ?_)
  by_cases hq_2 : mo_ok ns d = true
  · obtain ⟨zd, hzd, ezd⟩ := mo_ix (by omega) hq_2
    subst ezd
    have hczd : (nI zd).toNatClampNeg = zd := nI_clamp (by omega)
    have hr_1 : r_1 = some (g (40 + 3 * zd)) := by rw [hr_1, xa_at, if_pos hq_2, hczd]
    subst hr_1
    refine sy_tr (y := .ref (g (40 + 3 * zd))) rfl ?_
    have hPzd := hPS zd hzd
    have hHzd : va_P G.1 classes (hw (g (41 + 3 * zd)) (sh zd)) s.heap := hPzd.sub [1] rfl
    refine lv_astore (lv' := [(4, .ref (g (40 + 3 * zd))), (0, .ref (g 0)), (1, .int (nI zd)), (2, .int dv), (3, .int kd)]) hx hb d_DeviceSets_last_5 hl (by decide) rfl (fun ls hl => ?_)
    refine lv_aload hx hb d_DeviceSets_last_7 (lv_at hl 0 rfl) ?_
    refine lv_ifnonnull (tgt := 16) hx hb d_DeviceSets_last_9 (by decide) ?_
    refine lv_aload_n hx hb d_DeviceSets_last_16 rfl (lv_at hl 1 rfl) ?_
    refine va_get (D := G.1) (ci := 0) (v := .ref (g 3)) (C := R_DeviceSets) (T := F_DeviceSets) (N := 7) hx hb ht i_DeviceSets hown hK.1 hP 0 rfl rfl 2 (by decide) (ht _ m_115) (fun _ h9 => h9) rfl d_DeviceSets_last_17 ?_
    refine lv_aload_n hx hb d_DeviceSets_last_20 rfl (lv_at hl 1 rfl) ?_
    refine lv_aload hx hb d_DeviceSets_last_21 (lv_at hl 0 rfl) ?_
    refine va_getN (D := G.1) (ci := 4) (v := .ref (g (41 + 3 * zd))) (C := R_ToldSet) (T := F_ToldSet) (N := 3) hx hb ht i_ToldSet hown hK.1 hPzd 0 rfl rfl 0 (by decide) (va_Nw.use rfl (hK.2 _ m_248)) (fun _ h9 => h9) rfl d_DeviceSets_last_23 ?_
    refine lv_iload_n hx hb d_DeviceSets_last_26 rfl (lv_at hl 3 rfl) ?_
    refine lv_iload_n hx hb d_DeviceSets_last_27 rfl (lv_at hl 4 rfl) ?_
    refine vp_callSl (va_Run.run (sy_runV (As := [.ref (g (41 + 3 * zd)), .int dv, .int kd]) (rest := [.ref (g 3)]) (b := (g 0)) ⟨hx, hb, hml, hown, ht⟩ cl_DeviceSets_115 (c_DeviceSets_seenIn l G g nd ns nb nT fI fL (g (41 + 3 * zd)) (sh zd) dv kd (by omega)) hK ⟨hP, hPT, hHzd⟩ (va_recv hK.1 hP (ci := 0) (q0 := 0) rfl rfl) rfl nm_DeviceSets_seenIn rfl rfl ⟨Nat.le_of_ble_eq_true rfl, Nat.le_of_ble_eq_true rfl⟩ hl.1 (Nat.le_of_ble_eq_true rfl) d_DeviceSets_last_28 ⟨Nat.zero_le _, Nat.zero_le _⟩)) (fun r_3 hr_3 => ?_)
    subst hr_3
    refine vp_callSi (va_Run.run (sy_runV (As := [.long (xl_seen fI fL nT (sh zd) dv kd)]) (rest := []) (b := (g 3)) ⟨hx, hb, hml, hown, ht⟩ cl_DeviceSets_119 (c_Tellings_latestNumbered l G (g 3) (fun k => g (4 + k)) nT fI fL (xl_seen fI fL nT (sh zd) dv kd) (by omega)) hK hPT (va_recv hK.1 hPT (ci := 5) (q0 := 0) rfl rfl) rfl nm_Tellings_latestNumbered rfl rfl ⟨Nat.le_of_ble_eq_true rfl, Nat.le_of_ble_eq_true rfl⟩ hl.1 (Nat.le_of_ble_eq_true rfl) d_DeviceSets_last_31 ⟨Nat.zero_le _, Nat.zero_le _⟩)) (fun r_4 hr_4 => ?_)
    obtain ⟨o_5, ho_5, hr_4⟩ := sy_opt hr_4
    subst hr_4
    refine lv_istore (lv' := [(5, .int (oI o_5)), (4, .ref (g (40 + 3 * zd))), (0, .ref (g 0)), (1, .int (nI zd)), (2, .int dv), (3, .int kd)]) hx hb d_DeviceSets_last_34 hl (by decide) rfl (fun ls hl => ?_)
    refine lv_iload hx hb d_DeviceSets_last_36 (lv_at hl 0 rfl) ?_
    refine lv_iconst (v := (-1)) hx hb d_DeviceSets_last_38 (by decide) ?_
    rcases o_5 with _ | j_7
    · have hl : lv_has ls 6 [(5, .int (-1)), (4, .ref (g (40 + 3 * zd))), (0, .ref (g 0)), (1, .int (nI zd)), (2, .int dv), (3, .int kd)] := hl
      refine lv_icmp_ne (tgt := 48) hx hb d_DeviceSets_last_39 (by decide) (fun c_8 => absurd c_8 (by decide)) (fun c_8 => ?_)
      refine lv_ldc2 (v := (-9223372036854775808)) hx hb hown (ht _ m_326) d_DeviceSets_last_42 ?_
      refine lv_goto (tgt := 58) hx hb d_DeviceSets_last_45 (by decide) ?_
      exact W.lret (v := (-9223372036854775808 : Int64)) hx hb hr (fun t ht hW => ⟨(-9223372036854775808 : Int64), rfl, by simp [xm_last, xm_vo, hq_2, hczd, ← ho_5, c_8], ht⟩) (fun q h => by cases h) d_DeviceSets_last_58
    · have hl : lv_has ls 6 [(5, .int (nI j_7)), (4, .ref (g (40 + 3 * zd))), (0, .ref (g 0)), (1, .int (nI zd)), (2, .int dv), (3, .int kd)] := hl
      have hj_7 : j_7 < 60 := by have := nn_fm_lt ho_5.symm; omega
      refine lv_icmp_ne (tgt := 48) hx hb d_DeviceSets_last_39 (by decide) (fun c_9 => ?_) (fun c_9 => absurd c_9 (oI_ne (by omega)))
      refine lv_aload_n hx hb d_DeviceSets_last_48 rfl (lv_at hl 2 rfl) ?_
      refine va_get (D := G.1) (ci := 0) (v := .ref (g 3)) (C := R_DeviceSets) (T := F_DeviceSets) (N := 7) hx hb ht i_DeviceSets hown hK.1 hP 0 rfl rfl 2 (by decide) (ht _ m_115) (fun _ h9 => h9) rfl d_DeviceSets_last_49 ?_
      refine va_getN (D := G.1) (ci := 5) (v := .ref ((fun k => g (4 + k)) 5)) (C := R_Tellings) (T := F_Tellings) (N := 8) hx hb ht i_Tellings hown hK.1 hPT 0 rfl rfl 5 (by decide) (va_Nw.use rfl (hK.2 _ m_65)) (fun _ h9 => h9) rfl d_DeviceSets_last_52 ?_
      refine lv_iload hx hb d_DeviceSets_last_55 (lv_at hl 0 rfl) ?_
      refine sy_lald hx hb hK.1 hPT 6 1 rfl rfl (k := j_7) (by omega) (by decide) d_DeviceSets_last_57 ?_
      exact W.lret (v := fL 1 j_7) hx hb hr (fun t ht hW => ⟨fL 1 j_7, rfl, by simp [xm_last, xm_vo, hq_2, hczd, ← ho_5, c_9], ht⟩) (fun q h => by cases h) d_DeviceSets_last_58
  · have hq_2 : mo_ok ns d = false := by simpa using hq_2
    have hr_1 : r_1 = none := by rw [hr_1, xa_at, hq_2]; rfl
    subst hr_1
    refine sy_tr (y := .null) rfl ?_
    refine lv_astoreN (lv' := [(4, .null), (0, .ref (g 0)), (1, .int d), (2, .int dv), (3, .int kd)]) hx hb d_DeviceSets_last_5 hl (by decide) rfl (fun ls hl => ?_)
    refine lv_aloadN hx hb d_DeviceSets_last_7 (lv_at hl 0 rfl) ?_
    refine lv_ifnonnullN hx hb d_DeviceSets_last_9 ?_
    refine lv_ldc2 (v := (-9223372036854775808)) hx hb hown (ht _ m_326) d_DeviceSets_last_12 ?_
    exact W.lret (v := (-9223372036854775808 : Int64)) hx hb hr (fun t ht hW => ⟨(-9223372036854775808 : Int64), rfl, by simp [xm_last, xm_vo, hq_2], ht⟩) (fun q h => by cases h) d_DeviceSets_last_15
set_option maxHeartbeats 4000000 in
set_option maxRecDepth 100000 in
theorem c_DeviceSets_kept (l : Launch) (G : sy_G) (g : Nat → Nat) (nd : Nat) (ns : Nat) (nb : Nat) (nT : Nat) (fI : Nat → Nat → Int32) (fL : Nat → Nat → Int64) (nC : Nat) (gI : Nat → Nat → Int32) (gL : Nat → Nat → Int64) (dl : Nat → Nat) (df : Nat → Int64) (dm : Nat → Nat) (dk : Nat → Nat → Nat → Int64) (so : Nat → Int32) (sh : Nat → Nat → Int64) (sv : Nat → Nat → Int64) (d : Int32) (kd : Int32) (hd : nd ≤ 4) (hs : ns ≤ 6) (hn : nT ≤ 60) (hc : nC ≤ 20) (hm : ∀ d, d < nd → dm d ≤ 10) : Met l y_DeviceSets_kept (sy_w y_DeviceSets_kept b_DeviceSets_kept 4 (some .long)) { frames := 4, cells := 0, slots := 0, locals := 90 } (va_Pc [.ref (g 0), .int d, .int kd] (sy_KP G (fun H => (va_P G.1 classes (xw G.2 g nd ns nb)) H ∧ (va_P G.1 classes (tw G.2 (g 3) (fun k => g (4 + k)) nT fI fL)) H ∧ (va_P G.1 classes (cw G.2 (g 11) (fun k => g (12 + k)) nC gI gL)) H ∧ (∀ d, d < nd → va_P G.1 classes (dw G.2 g dl df dm dk d) H) ∧ (∀ j, j < ns → va_P G.1 classes (sw g so sh sv j) H)))) (vp_Sl (fun r => r = xm_kept ns nT fI fL sh d kd)) 0 0 (fun _ => False) := by
  refine Met.ofW (cc := b_DeviceSets_kept) (maxL := 4) (ret := (some .long)) (by decide) rfl ?_
  intro p e s m args below meth c s₁ B hml hv
  obtain ⟨rfl, ⟨hP, hPT, hPC, hPD, hPS⟩, hK⟩ := hv
  have hx := B.exec
  have hb := B.bytes
  have hr := B.returns
  have hts := atoms_spec (ws := sy_w y_DeviceSets_kept b_DeviceSets_kept 4 (some .long)) B.pre
  have ht : ∀ wd ∈ sy_T, wd.before ([.ref (g 0), .int d, .int kd] : List Value).toArray s = true := fun wd h => hts wd (List.mem_cons_of_mem _ h)
  have hown : s.vm.findClass R_DeviceSets = some m.cls := findClass_of_methodNamed B.named
  have hlocks := B.notSynchronized
  have hl := lv_entry ([.ref (g 0), .int d, .int kd]) (n := 4) (Nat.le_of_ble_eq_true rfl)
  rw [lg_entry_eq]
  generalize (lg_sl ([.ref (g 0), .int d, .int kd]) ++ List.replicate (4 - (lg_sl ([.ref (g 0), .int d, .int kd])).length) Slot.unset).toArray = ls at hl ⊢
  have hl : lv_has ls 4 [(0, .ref (g 0)), (1, .int d), (2, .int kd)] := hl
  refine lv_aload_n hx hb d_DeviceSets_kept_0 rfl (lv_at hl 0 rfl) ?_
  refine lv_iload_n hx hb d_DeviceSets_kept_1 rfl (lv_at hl 1 rfl) ?_
  refine va_csq (va_Run.run (sy_runV (As := [.int d]) (rest := []) (b := (g 0)) ⟨hx, hb, hml, hown, ht⟩ cl_DeviceSets_80 (c_DeviceSets_setAt l G g nd ns nb d (by omega)) hK hP (va_recv hK.1 hP (ci := 0) (q0 := 0) rfl rfl) rfl nm_DeviceSets_setAt rfl rfl ⟨Nat.le_of_ble_eq_true rfl, Nat.le_of_ble_eq_true rfl⟩ hl.1 (Nat.le_of_ble_eq_true rfl) d_DeviceSets_kept_2 ⟨Nat.zero_le _, Nat.zero_le _⟩)) (fun r_1 hr_1 => ?_)
  by_cases hq_2 : mo_ok ns d = true
  · obtain ⟨zd, hzd, ezd⟩ := mo_ix (by omega) hq_2
    subst ezd
    have hczd : (nI zd).toNatClampNeg = zd := nI_clamp (by omega)
    have hr_1 : r_1 = some (g (40 + 3 * zd)) := by rw [hr_1, xa_at, if_pos hq_2, hczd]
    subst hr_1
    refine sy_tr (y := .ref (g (40 + 3 * zd))) rfl ?_
    have hPzd := hPS zd hzd
    have hHzd : va_P G.1 classes (hw (g (41 + 3 * zd)) (sh zd)) s.heap := hPzd.sub [1] rfl
    refine lv_astore_n (lv' := [(3, .ref (g (40 + 3 * zd))), (0, .ref (g 0)), (1, .int (nI zd)), (2, .int kd)]) hx hb d_DeviceSets_kept_5 rfl hl (by decide) rfl (fun ls hl => ?_)
    refine lv_aload_n hx hb d_DeviceSets_kept_6 rfl (lv_at hl 0 rfl) ?_
    refine lv_ifnonnull (tgt := 14) hx hb d_DeviceSets_kept_7 (by decide) ?_
    refine lv_aload_n hx hb d_DeviceSets_kept_14 rfl (lv_at hl 1 rfl) ?_
    refine va_get (D := G.1) (ci := 0) (v := .ref (g 3)) (C := R_DeviceSets) (T := F_DeviceSets) (N := 7) hx hb ht i_DeviceSets hown hK.1 hP 0 rfl rfl 2 (by decide) (ht _ m_115) (fun _ h9 => h9) rfl d_DeviceSets_kept_15 ?_
    refine lv_aload_n hx hb d_DeviceSets_kept_18 rfl (lv_at hl 0 rfl) ?_
    refine va_getN (D := G.1) (ci := 4) (v := .ref (g (41 + 3 * zd))) (C := R_ToldSet) (T := F_ToldSet) (N := 3) hx hb ht i_ToldSet hown hK.1 hPzd 0 rfl rfl 0 (by decide) (va_Nw.use rfl (hK.2 _ m_248)) (fun _ h9 => h9) rfl d_DeviceSets_kept_19 ?_
    refine va_getN (D := G.1) (ci := 3) (v := .long (sh zd 0)) (C := R_Held) (T := F_Held) (N := 4) hx hb ht i_Held hown hK.1 hHzd 0 rfl rfl 0 (by decide) (va_Nw.use rfl (hK.2 _ m_231)) (fun _ h9 => h9) rfl d_DeviceSets_kept_22 ?_
    refine lv_aload_n hx hb d_DeviceSets_kept_25 rfl (lv_at hl 1 rfl) ?_
    refine lv_aload_n hx hb d_DeviceSets_kept_26 rfl (lv_at hl 0 rfl) ?_
    refine va_getN (D := G.1) (ci := 4) (v := .ref (g (41 + 3 * zd))) (C := R_ToldSet) (T := F_ToldSet) (N := 3) hx hb ht i_ToldSet hown hK.1 hPzd 0 rfl rfl 0 (by decide) (va_Nw.use rfl (hK.2 _ m_248)) (fun _ h9 => h9) rfl d_DeviceSets_kept_27 ?_
    refine vp_callSl (va_Run.run (sy_runV (As := [.ref (g (41 + 3 * zd))]) (rest := [.long (sh zd 0), .ref (g 3)]) (b := (g 0)) ⟨hx, hb, hml, hown, ht⟩ cl_DeviceSets_158 (c_DeviceSets_liveIn l G g nd ns nb nT fI fL (g (41 + 3 * zd)) (sh zd) (by omega)) hK ⟨hP, hPT, hHzd⟩ (va_recv hK.1 hP (ci := 0) (q0 := 0) rfl rfl) rfl nm_DeviceSets_liveIn rfl rfl ⟨Nat.le_of_ble_eq_true rfl, Nat.le_of_ble_eq_true rfl⟩ hl.1 (Nat.le_of_ble_eq_true rfl) d_DeviceSets_kept_30 ⟨Nat.zero_le _, Nat.zero_le _⟩)) (fun r_3 hr_3 => ?_)
    subst hr_3
    refine lv_ldc2 (v := (-1)) hx hb hown (ht _ m_440) d_DeviceSets_kept_33 ?_
    refine lv_lxor hx hb d_DeviceSets_kept_36 ?_
    refine lv_land hx hb d_DeviceSets_kept_37 ?_
    refine lv_iload_n hx hb d_DeviceSets_kept_38 rfl (lv_at hl 3 rfl) ?_
    refine vp_callSl (va_Run.run (sy_runV (As := [.long ((sh zd 0) &&& ((xl_live fL nT (sh zd)) ^^^ (-1))), .int kd]) (rest := []) (b := (g 3)) ⟨hx, hb, hml, hown, ht⟩ cl_DeviceSets_194 (c_Tellings_sumOfKind l G (g 3) (fun k => g (4 + k)) nT fI fL ((sh zd 0) &&& ((xl_live fL nT (sh zd)) ^^^ (-1))) kd (by omega)) hK hPT (va_recv hK.1 hPT (ci := 5) (q0 := 0) rfl rfl) rfl nm_Tellings_sumOfKind rfl rfl ⟨Nat.le_of_ble_eq_true rfl, Nat.le_of_ble_eq_true rfl⟩ hl.1 (Nat.le_of_ble_eq_true rfl) d_DeviceSets_kept_39 ⟨Nat.zero_le _, Nat.zero_le _⟩)) (fun r_4 hr_4 => ?_)
    subst hr_4
    exact W.lret (v := tl_sum fI fL nT ((sh zd 0) &&& ((xl_live fL nT (sh zd)) ^^^ (-1))) kd) hx hb hr (fun t ht hW => ⟨tl_sum fI fL nT ((sh zd 0) &&& ((xl_live fL nT (sh zd)) ^^^ (-1))) kd, rfl, by first | (rw [xm_kept, if_pos (by assumption), hczd]; done) | (simp [xm_kept, hq_2, hczd]; done), ht⟩) (fun q h => by cases h) d_DeviceSets_kept_42
  · have hq_2 : mo_ok ns d = false := by simpa using hq_2
    have hr_1 : r_1 = none := by rw [hr_1, xa_at, hq_2]; rfl
    subst hr_1
    refine sy_tr (y := .null) rfl ?_
    refine lv_astore_nN (lv' := [(3, .null), (0, .ref (g 0)), (1, .int d), (2, .int kd)]) hx hb d_DeviceSets_kept_5 rfl hl (by decide) rfl (fun ls hl => ?_)
    refine lv_aload_nN hx hb d_DeviceSets_kept_6 rfl (lv_at hl 0 rfl) ?_
    refine lv_ifnonnullN hx hb d_DeviceSets_kept_7 ?_
    refine lv_lconst (v := 0) hx hb d_DeviceSets_kept_10 (by decide) ?_
    refine lv_goto (tgt := 42) hx hb d_DeviceSets_kept_11 (by decide) ?_
    exact W.lret (v := (0 : Int64)) hx hb hr (fun t ht hW => ⟨(0 : Int64), rfl, by first | (rw [xm_kept, if_pos (by assumption), hczd]; done) | (simp [xm_kept, hq_2]; done), ht⟩) (fun q h => by cases h) d_DeviceSets_kept_42
set_option maxHeartbeats 4000000 in
set_option maxRecDepth 100000 in
theorem c_DeviceSets_equal (l : Launch) (G : sy_G) (g : Nat → Nat) (nd : Nat) (ns : Nat) (nb : Nat) (nT : Nat) (fI : Nat → Nat → Int32) (fL : Nat → Nat → Int64) (nC : Nat) (gI : Nat → Nat → Int32) (gL : Nat → Nat → Int64) (dl : Nat → Nat) (df : Nat → Int64) (dm : Nat → Nat) (dk : Nat → Nat → Nat → Int64) (so : Nat → Int32) (sh : Nat → Nat → Int64) (sv : Nat → Nat → Int64) (d : Int32) (dv : Int32) (hd : nd ≤ 4) (hs : ns ≤ 6) (hn : nT ≤ 60) (hc : nC ≤ 20) (hm : ∀ d, d < nd → dm d ≤ 10) : Met l y_DeviceSets_equal (sy_w y_DeviceSets_equal b_DeviceSets_equal 5 (some .boolean)) { frames := 1, cells := 0, slots := 0, locals := 21 } (va_Pc [.ref (g 0), .int d, .int dv] (sy_KP G (fun H => (va_P G.1 classes (xw G.2 g nd ns nb)) H ∧ (va_P G.1 classes (tw G.2 (g 3) (fun k => g (4 + k)) nT fI fL)) H ∧ (va_P G.1 classes (cw G.2 (g 11) (fun k => g (12 + k)) nC gI gL)) H ∧ (∀ d, d < nd → va_P G.1 classes (dw G.2 g dl df dm dk d) H) ∧ (∀ j, j < ns → va_P G.1 classes (sw g so sh sv j) H)))) (vp_Si (fun r => r = bI (xm_equal ns sh d dv))) 0 0 (fun _ => False) := by
  refine Met.ofW (cc := b_DeviceSets_equal) (maxL := 5) (ret := (some .boolean)) (by decide) rfl ?_
  intro p e s m args below meth c s₁ B hml hv
  obtain ⟨rfl, ⟨hP, hPT, hPC, hPD, hPS⟩, hK⟩ := hv
  have hx := B.exec
  have hb := B.bytes
  have hr := B.returns
  have hts := atoms_spec (ws := sy_w y_DeviceSets_equal b_DeviceSets_equal 5 (some .boolean)) B.pre
  have ht : ∀ wd ∈ sy_T, wd.before ([.ref (g 0), .int d, .int dv] : List Value).toArray s = true := fun wd h => hts wd (List.mem_cons_of_mem _ h)
  have hown : s.vm.findClass R_DeviceSets = some m.cls := findClass_of_methodNamed B.named
  have hlocks := B.notSynchronized
  have hl := lv_entry ([.ref (g 0), .int d, .int dv]) (n := 5) (Nat.le_of_ble_eq_true rfl)
  rw [lg_entry_eq]
  generalize (lg_sl ([.ref (g 0), .int d, .int dv]) ++ List.replicate (5 - (lg_sl ([.ref (g 0), .int d, .int dv])).length) Slot.unset).toArray = ls at hl ⊢
  have hl : lv_has ls 5 [(0, .ref (g 0)), (1, .int d), (2, .int dv)] := hl
  refine lv_aload_n hx hb d_DeviceSets_equal_0 rfl (lv_at hl 0 rfl) ?_
  refine lv_iload_n hx hb d_DeviceSets_equal_1 rfl (lv_at hl 1 rfl) ?_
  refine va_csq (va_Run.run (sy_runV (As := [.int d]) (rest := []) (b := (g 0)) ⟨hx, hb, hml, hown, ht⟩ cl_DeviceSets_80 (c_DeviceSets_setAt l G g nd ns nb d (by omega)) hK hP (va_recv hK.1 hP (ci := 0) (q0 := 0) rfl rfl) rfl nm_DeviceSets_setAt rfl rfl ⟨Nat.le_of_ble_eq_true rfl, Nat.le_of_ble_eq_true rfl⟩ hl.1 (Nat.le_of_ble_eq_true rfl) d_DeviceSets_equal_2 ⟨Nat.zero_le _, Nat.zero_le _⟩)) (fun r_1 hr_1 => ?_)
  by_cases hq_2 : mo_ok ns d = true
  · obtain ⟨zd, hzd, ezd⟩ := mo_ix (by omega) hq_2
    subst ezd
    have hczd : (nI zd).toNatClampNeg = zd := nI_clamp (by omega)
    have hr_1 : r_1 = some (g (40 + 3 * zd)) := by rw [hr_1, xa_at, if_pos hq_2, hczd]
    subst hr_1
    refine sy_tr (y := .ref (g (40 + 3 * zd))) rfl ?_
    have hPzd := hPS zd hzd
    have hHzd : va_P G.1 classes (hw (g (41 + 3 * zd)) (sh zd)) s.heap := hPzd.sub [1] rfl
    refine lv_astore_n (lv' := [(3, .ref (g (40 + 3 * zd))), (0, .ref (g 0)), (1, .int (nI zd)), (2, .int dv)]) hx hb d_DeviceSets_equal_5 rfl hl (by decide) rfl (fun ls hl => ?_)
    refine lv_aload_n hx hb d_DeviceSets_equal_6 rfl (lv_at hl 1 rfl) ?_
    refine lv_iload_n hx hb d_DeviceSets_equal_7 rfl (lv_at hl 3 rfl) ?_
    refine va_csq (va_Run.run (sy_runV (As := [.int dv]) (rest := []) (b := (g 0)) ⟨hx, hb, hml, hown, ht⟩ cl_DeviceSets_80 (c_DeviceSets_setAt l G g nd ns nb dv (by omega)) hK hP (va_recv hK.1 hP (ci := 0) (q0 := 0) rfl rfl) rfl nm_DeviceSets_setAt rfl rfl ⟨Nat.le_of_ble_eq_true rfl, Nat.le_of_ble_eq_true rfl⟩ hl.1 (Nat.le_of_ble_eq_true rfl) d_DeviceSets_equal_8 ⟨Nat.zero_le _, Nat.zero_le _⟩)) (fun r_3 hr_3 => ?_)
    by_cases hq_4 : mo_ok ns dv = true
    · obtain ⟨zdv, hzdv, ezdv⟩ := mo_ix (by omega) hq_4
      subst ezdv
      have hczdv : (nI zdv).toNatClampNeg = zdv := nI_clamp (by omega)
      have hr_3 : r_3 = some (g (40 + 3 * zdv)) := by rw [hr_3, xa_at, if_pos hq_4, hczdv]
      subst hr_3
      refine sy_tr (y := .ref (g (40 + 3 * zdv))) rfl ?_
      have hPzdv := hPS zdv hzdv
      have hHzdv : va_P G.1 classes (hw (g (41 + 3 * zdv)) (sh zdv)) s.heap := hPzdv.sub [1] rfl
      refine lv_astore (lv' := [(4, .ref (g (40 + 3 * zdv))), (3, .ref (g (40 + 3 * zd))), (0, .ref (g 0)), (1, .int (nI zd)), (2, .int (nI zdv))]) hx hb d_DeviceSets_equal_11 hl (by decide) rfl (fun ls hl => ?_)
      refine lv_aload_n hx hb d_DeviceSets_equal_13 rfl (lv_at hl 1 rfl) ?_
      refine lv_ifnull hx hb d_DeviceSets_equal_14 ?_
      refine lv_aload hx hb d_DeviceSets_equal_17 (lv_at hl 0 rfl) ?_
      refine lv_ifnull hx hb d_DeviceSets_equal_19 ?_
      refine lv_aload_n hx hb d_DeviceSets_equal_22 rfl (lv_at hl 1 rfl) ?_
      refine va_getN (D := G.1) (ci := 4) (v := .ref (g (41 + 3 * zd))) (C := R_ToldSet) (T := F_ToldSet) (N := 3) hx hb ht i_ToldSet hown hK.1 hPzd 0 rfl rfl 0 (by decide) (va_Nw.use rfl (hK.2 _ m_248)) (fun _ h9 => h9) rfl d_DeviceSets_equal_23 ?_
      refine lv_aload hx hb d_DeviceSets_equal_26 (lv_at hl 0 rfl) ?_
      refine va_getN (D := G.1) (ci := 4) (v := .ref (g (41 + 3 * zdv))) (C := R_ToldSet) (T := F_ToldSet) (N := 3) hx hb ht i_ToldSet hown hK.1 hPzdv 0 rfl rfl 0 (by decide) (va_Nw.use rfl (hK.2 _ m_248)) (fun _ h9 => h9) rfl d_DeviceSets_equal_28 ?_
      refine vp_callSi (va_Run.run (sy_runV (As := [.ref (g (41 + 3 * zdv))]) (rest := []) (b := (g (41 + 3 * zd))) ⟨hx, hb, hml, hown, ht⟩ cl_DeviceSets_168 (c_Held_isLike l G (g (41 + 3 * zd)) (sh zd) (g (41 + 3 * zdv)) (sh zdv)) hK ⟨hHzd, hHzdv⟩ (va_recv hK.1 hHzd (ci := 3) (q0 := 0) rfl rfl) rfl nm_Held_isLike rfl rfl ⟨Nat.le_of_ble_eq_true rfl, Nat.le_of_ble_eq_true rfl⟩ hl.1 (Nat.le_of_ble_eq_true rfl) d_DeviceSets_equal_31 ⟨Nat.zero_le _, Nat.zero_le _⟩)) (fun r_5 hr_5 => ?_)
      subst hr_5
      refine lv_if_eq (tgt := 41) hx hb d_DeviceSets_equal_34 (by decide) (fun c_6 => ?_) (fun c_6 => ?_)
      · have c_6 : (he_like (sh zd) (sh zdv)) = false := bI_f c_6
        refine lv_iconst (v := 0) hx hb d_DeviceSets_equal_41 (by decide) ?_
        exact W.zret (v := (0 : Int32)) hx hb hr (rfl) (fun t ht hW => ⟨(0 : Int32), rfl, by simp [xm_equal, bI, hq_2, hczd, hq_4, hczdv, c_6], ht⟩) (fun q h => by cases h) d_DeviceSets_equal_42
      · have c_6 : (he_like (sh zd) (sh zdv)) = true := bI_t c_6
        refine lv_iconst (v := 1) hx hb d_DeviceSets_equal_37 (by decide) ?_
        refine lv_goto (tgt := 42) hx hb d_DeviceSets_equal_38 (by decide) ?_
        exact W.zret (v := (1 : Int32)) hx hb hr (rfl) (fun t ht hW => ⟨(1 : Int32), rfl, by simp [xm_equal, bI, hq_2, hczd, hq_4, hczdv, c_6], ht⟩) (fun q h => by cases h) d_DeviceSets_equal_42
    · have hq_4 : mo_ok ns dv = false := by simpa using hq_4
      have hr_3 : r_3 = none := by rw [hr_3, xa_at, hq_4]; rfl
      subst hr_3
      refine sy_tr (y := .null) rfl ?_
      refine lv_astoreN (lv' := [(4, .null), (3, .ref (g (40 + 3 * zd))), (0, .ref (g 0)), (1, .int (nI zd)), (2, .int dv)]) hx hb d_DeviceSets_equal_11 hl (by decide) rfl (fun ls hl => ?_)
      refine lv_aload_n hx hb d_DeviceSets_equal_13 rfl (lv_at hl 1 rfl) ?_
      refine lv_ifnull hx hb d_DeviceSets_equal_14 ?_
      refine lv_aloadN hx hb d_DeviceSets_equal_17 (lv_at hl 0 rfl) ?_
      refine lv_ifnullN (tgt := 41) hx hb d_DeviceSets_equal_19 (by decide) ?_
      refine lv_iconst (v := 0) hx hb d_DeviceSets_equal_41 (by decide) ?_
      exact W.zret (v := (0 : Int32)) hx hb hr (rfl) (fun t ht hW => ⟨(0 : Int32), rfl, by simp [xm_equal, bI, hq_2, hczd, hq_4], ht⟩) (fun q h => by cases h) d_DeviceSets_equal_42
  · have hq_2 : mo_ok ns d = false := by simpa using hq_2
    have hr_1 : r_1 = none := by rw [hr_1, xa_at, hq_2]; rfl
    subst hr_1
    refine sy_tr (y := .null) rfl ?_
    refine lv_astore_nN (lv' := [(3, .null), (0, .ref (g 0)), (1, .int d), (2, .int dv)]) hx hb d_DeviceSets_equal_5 rfl hl (by decide) rfl (fun ls hl => ?_)
    refine lv_aload_n hx hb d_DeviceSets_equal_6 rfl (lv_at hl 1 rfl) ?_
    refine lv_iload_n hx hb d_DeviceSets_equal_7 rfl (lv_at hl 3 rfl) ?_
    refine va_csq (va_Run.run (sy_runV (As := [.int dv]) (rest := []) (b := (g 0)) ⟨hx, hb, hml, hown, ht⟩ cl_DeviceSets_80 (c_DeviceSets_setAt l G g nd ns nb dv (by omega)) hK hP (va_recv hK.1 hP (ci := 0) (q0 := 0) rfl rfl) rfl nm_DeviceSets_setAt rfl rfl ⟨Nat.le_of_ble_eq_true rfl, Nat.le_of_ble_eq_true rfl⟩ hl.1 (Nat.le_of_ble_eq_true rfl) d_DeviceSets_equal_8 ⟨Nat.zero_le _, Nat.zero_le _⟩)) (fun r_7 hr_7 => ?_)
    by_cases hq_8 : mo_ok ns dv = true
    · obtain ⟨zdv, hzdv, ezdv⟩ := mo_ix (by omega) hq_8
      subst ezdv
      have hczdv : (nI zdv).toNatClampNeg = zdv := nI_clamp (by omega)
      have hr_7 : r_7 = some (g (40 + 3 * zdv)) := by rw [hr_7, xa_at, if_pos hq_8, hczdv]
      subst hr_7
      refine sy_tr (y := .ref (g (40 + 3 * zdv))) rfl ?_
      have hPzdv := hPS zdv hzdv
      have hHzdv : va_P G.1 classes (hw (g (41 + 3 * zdv)) (sh zdv)) s.heap := hPzdv.sub [1] rfl
      refine lv_astore (lv' := [(4, .ref (g (40 + 3 * zdv))), (3, .null), (0, .ref (g 0)), (1, .int d), (2, .int (nI zdv))]) hx hb d_DeviceSets_equal_11 hl (by decide) rfl (fun ls hl => ?_)
      refine lv_aload_nN hx hb d_DeviceSets_equal_13 rfl (lv_at hl 1 rfl) ?_
      refine lv_ifnullN (tgt := 41) hx hb d_DeviceSets_equal_14 (by decide) ?_
      refine lv_iconst (v := 0) hx hb d_DeviceSets_equal_41 (by decide) ?_
      exact W.zret (v := (0 : Int32)) hx hb hr (rfl) (fun t ht hW => ⟨(0 : Int32), rfl, by simp [xm_equal, bI, hq_2, hq_8, hczdv], ht⟩) (fun q h => by cases h) d_DeviceSets_equal_42
    · have hq_8 : mo_ok ns dv = false := by simpa using hq_8
      have hr_7 : r_7 = none := by rw [hr_7, xa_at, hq_8]; rfl
      subst hr_7
      refine sy_tr (y := .null) rfl ?_
      refine lv_astoreN (lv' := [(4, .null), (3, .null), (0, .ref (g 0)), (1, .int d), (2, .int dv)]) hx hb d_DeviceSets_equal_11 hl (by decide) rfl (fun ls hl => ?_)
      refine lv_aload_nN hx hb d_DeviceSets_equal_13 rfl (lv_at hl 1 rfl) ?_
      refine lv_ifnullN (tgt := 41) hx hb d_DeviceSets_equal_14 (by decide) ?_
      refine lv_iconst (v := 0) hx hb d_DeviceSets_equal_41 (by decide) ?_
      exact W.zret (v := (0 : Int32)) hx hb hr (rfl) (fun t ht hW => ⟨(0 : Int32), rfl, by simp [xm_equal, bI, hq_2, hq_8], ht⟩) (fun q h => by cases h) d_DeviceSets_equal_42
set_option maxHeartbeats 4000000 in
set_option maxRecDepth 100000 in
theorem c_DeviceSets_conflict (l : Launch) (G : sy_G) (g : Nat → Nat) (nd : Nat) (ns : Nat) (nb : Nat) (nT : Nat) (fI : Nat → Nat → Int32) (fL : Nat → Nat → Int64) (nC : Nat) (gI : Nat → Nat → Int32) (gL : Nat → Nat → Int64) (dl : Nat → Nat) (df : Nat → Int64) (dm : Nat → Nat) (dk : Nat → Nat → Nat → Int64) (so : Nat → Int32) (sh : Nat → Nat → Int64) (sv : Nat → Nat → Int64) (d : Int32) (pk : Int32) (wt : Int32) (hd : nd ≤ 4) (hs : ns ≤ 6) (hn : nT ≤ 60) (hc : nC ≤ 20) (hm : ∀ d, d < nd → dm d ≤ 10) : Met l y_DeviceSets_conflict (sy_w y_DeviceSets_conflict b_DeviceSets_conflict 6 (some .int)) { frames := 5, cells := 0, slots := 0, locals := 120 } (va_Pc [.ref (g 0), .int d, .int pk, .int wt] (sy_KP G (fun H => (va_P G.1 classes (xw G.2 g nd ns nb)) H ∧ (va_P G.1 classes (tw G.2 (g 3) (fun k => g (4 + k)) nT fI fL)) H ∧ (va_P G.1 classes (cw G.2 (g 11) (fun k => g (12 + k)) nC gI gL)) H ∧ (∀ d, d < nd → va_P G.1 classes (dw G.2 g dl df dm dk d) H) ∧ (∀ j, j < ns → va_P G.1 classes (sw g so sh sv j) H)))) (vp_Si (fun r => r = xm_conflict ns nT fI fL sh d pk wt)) 0 0 (fun _ => False) := by
  refine Met.ofW (cc := b_DeviceSets_conflict) (maxL := 6) (ret := (some .int)) (by decide) rfl ?_
  intro p e s m args below meth c s₁ B hml hv
  obtain ⟨rfl, ⟨hP, hPT, hPC, hPD, hPS⟩, hK⟩ := hv
  have hx := B.exec
  have hb := B.bytes
  have hr := B.returns
  have hts := atoms_spec (ws := sy_w y_DeviceSets_conflict b_DeviceSets_conflict 6 (some .int)) B.pre
  have ht : ∀ wd ∈ sy_T, wd.before ([.ref (g 0), .int d, .int pk, .int wt] : List Value).toArray s = true := fun wd h => hts wd (List.mem_cons_of_mem _ h)
  have hown : s.vm.findClass R_DeviceSets = some m.cls := findClass_of_methodNamed B.named
  have hlocks := B.notSynchronized
  have hl := lv_entry ([.ref (g 0), .int d, .int pk, .int wt]) (n := 6) (Nat.le_of_ble_eq_true rfl)
  rw [lg_entry_eq]
  generalize (lg_sl ([.ref (g 0), .int d, .int pk, .int wt]) ++ List.replicate (6 - (lg_sl ([.ref (g 0), .int d, .int pk, .int wt])).length) Slot.unset).toArray = ls at hl ⊢
  have hl : lv_has ls 6 [(0, .ref (g 0)), (1, .int d), (2, .int pk), (3, .int wt)] := hl
  refine lv_aload_n hx hb d_DeviceSets_conflict_0 rfl (lv_at hl 0 rfl) ?_
  refine lv_iload_n hx hb d_DeviceSets_conflict_1 rfl (lv_at hl 1 rfl) ?_
  refine va_csq (va_Run.run (sy_runV (As := [.int d]) (rest := []) (b := (g 0)) ⟨hx, hb, hml, hown, ht⟩ cl_DeviceSets_80 (c_DeviceSets_setAt l G g nd ns nb d (by omega)) hK hP (va_recv hK.1 hP (ci := 0) (q0 := 0) rfl rfl) rfl nm_DeviceSets_setAt rfl rfl ⟨Nat.le_of_ble_eq_true rfl, Nat.le_of_ble_eq_true rfl⟩ hl.1 (Nat.le_of_ble_eq_true rfl) d_DeviceSets_conflict_2 ⟨Nat.zero_le _, Nat.zero_le _⟩)) (fun r_1 hr_1 => ?_)
  by_cases hq_2 : mo_ok ns d = true
  · obtain ⟨zd, hzd, ezd⟩ := mo_ix (by omega) hq_2
    subst ezd
    have hczd : (nI zd).toNatClampNeg = zd := nI_clamp (by omega)
    have hr_1 : r_1 = some (g (40 + 3 * zd)) := by rw [hr_1, xa_at, if_pos hq_2, hczd]
    subst hr_1
    refine sy_tr (y := .ref (g (40 + 3 * zd))) rfl ?_
    have hPzd := hPS zd hzd
    have hHzd : va_P G.1 classes (hw (g (41 + 3 * zd)) (sh zd)) s.heap := hPzd.sub [1] rfl
    refine lv_astore (lv' := [(4, .ref (g (40 + 3 * zd))), (0, .ref (g 0)), (1, .int (nI zd)), (2, .int pk), (3, .int wt)]) hx hb d_DeviceSets_conflict_5 hl (by decide) rfl (fun ls hl => ?_)
    refine lv_aload hx hb d_DeviceSets_conflict_7 (lv_at hl 0 rfl) ?_
    refine lv_ifnonnull (tgt := 14) hx hb d_DeviceSets_conflict_9 (by decide) ?_
    refine lv_aload_n hx hb d_DeviceSets_conflict_14 rfl (lv_at hl 1 rfl) ?_
    refine va_get (D := G.1) (ci := 0) (v := .ref (g 3)) (C := R_DeviceSets) (T := F_DeviceSets) (N := 7) hx hb ht i_DeviceSets hown hK.1 hP 0 rfl rfl 2 (by decide) (ht _ m_115) (fun _ h9 => h9) rfl d_DeviceSets_conflict_15 ?_
    refine lv_aload_n hx hb d_DeviceSets_conflict_18 rfl (lv_at hl 1 rfl) ?_
    refine lv_aload hx hb d_DeviceSets_conflict_19 (lv_at hl 0 rfl) ?_
    refine va_getN (D := G.1) (ci := 4) (v := .ref (g (41 + 3 * zd))) (C := R_ToldSet) (T := F_ToldSet) (N := 3) hx hb ht i_ToldSet hown hK.1 hPzd 0 rfl rfl 0 (by decide) (va_Nw.use rfl (hK.2 _ m_248)) (fun _ h9 => h9) rfl d_DeviceSets_conflict_21 ?_
    refine vp_callSl (va_Run.run (sy_runV (As := [.ref (g (41 + 3 * zd))]) (rest := [.ref (g 3)]) (b := (g 0)) ⟨hx, hb, hml, hown, ht⟩ cl_DeviceSets_92 (c_DeviceSets_conflictsIn l G g nd ns nb nT fI fL (g (41 + 3 * zd)) (sh zd) (by omega)) hK ⟨hP, hPT, hHzd⟩ (va_recv hK.1 hP (ci := 0) (q0 := 0) rfl rfl) rfl nm_DeviceSets_conflictsIn rfl rfl ⟨Nat.le_of_ble_eq_true rfl, Nat.le_of_ble_eq_true rfl⟩ hl.1 (Nat.le_of_ble_eq_true rfl) d_DeviceSets_conflict_24 ⟨Nat.zero_le _, Nat.zero_le _⟩)) (fun r_3 hr_3 => ?_)
    subst hr_3
    refine lv_iload_n hx hb d_DeviceSets_conflict_27 rfl (lv_at hl 3 rfl) ?_
    refine vp_callSi (va_Run.run (sy_runV (As := [.long (xl_conf fI fL nT (sh zd)), .int pk]) (rest := []) (b := (g 3)) ⟨hx, hb, hml, hown, ht⟩ cl_DeviceSets_144 (c_Tellings_inPlace l G (g 3) (fun k => g (4 + k)) nT fI fL (xl_conf fI fL nT (sh zd)) pk (by omega)) hK hPT (va_recv hK.1 hPT (ci := 5) (q0 := 0) rfl rfl) rfl nm_Tellings_inPlace rfl rfl ⟨Nat.le_of_ble_eq_true rfl, Nat.le_of_ble_eq_true rfl⟩ hl.1 (Nat.le_of_ble_eq_true rfl) d_DeviceSets_conflict_28 ⟨Nat.zero_le _, Nat.zero_le _⟩)) (fun r_4 hr_4 => ?_)
    obtain ⟨o_5, ho_5, hr_4⟩ := sy_opt hr_4
    subst hr_4
    refine lv_istore (lv' := [(5, .int (oI o_5)), (4, .ref (g (40 + 3 * zd))), (0, .ref (g 0)), (1, .int (nI zd)), (2, .int pk), (3, .int wt)]) hx hb d_DeviceSets_conflict_31 hl (by decide) rfl (fun ls hl => ?_)
    refine lv_iload hx hb d_DeviceSets_conflict_33 (lv_at hl 0 rfl) ?_
    refine lv_iconst (v := (-1)) hx hb d_DeviceSets_conflict_35 (by decide) ?_
    rcases o_5 with _ | j_7
    · have hl : lv_has ls 6 [(5, .int (-1)), (4, .ref (g (40 + 3 * zd))), (0, .ref (g 0)), (1, .int (nI zd)), (2, .int pk), (3, .int wt)] := hl
      refine lv_icmp_ne (tgt := 43) hx hb d_DeviceSets_conflict_36 (by decide) (fun c_8 => absurd c_8 (by decide)) (fun c_8 => ?_)
      refine lv_iconst (v := (-1)) hx hb d_DeviceSets_conflict_39 (by decide) ?_
      refine lv_goto (tgt := 53) hx hb d_DeviceSets_conflict_40 (by decide) ?_
      exact W.iret (v := (-1 : Int32)) hx hb hr (fun t ht hW => ⟨(-1 : Int32), rfl, by simp [xm_conflict, mo_part2, hq_2, hczd, ← ho_5, c_8], ht⟩) (fun q h => by cases h) d_DeviceSets_conflict_53
    · have hl : lv_has ls 6 [(5, .int (nI j_7)), (4, .ref (g (40 + 3 * zd))), (0, .ref (g 0)), (1, .int (nI zd)), (2, .int pk), (3, .int wt)] := hl
      have hj_7 : j_7 < 60 := by have := (nn_ff_lt ho_5.symm).1; omega
      refine lv_icmp_ne (tgt := 43) hx hb d_DeviceSets_conflict_36 (by decide) (fun c_9 => ?_) (fun c_9 => absurd c_9 (oI_ne (by omega)))
      refine lv_aload_n hx hb d_DeviceSets_conflict_43 rfl (lv_at hl 2 rfl) ?_
      refine va_get (D := G.1) (ci := 0) (v := .ref (g 3)) (C := R_DeviceSets) (T := F_DeviceSets) (N := 7) hx hb ht i_DeviceSets hown hK.1 hP 0 rfl rfl 2 (by decide) (ht _ m_115) (fun _ h9 => h9) rfl d_DeviceSets_conflict_44 ?_
      refine lv_iload hx hb d_DeviceSets_conflict_47 (lv_at hl 0 rfl) ?_
      refine lv_iload_n hx hb d_DeviceSets_conflict_49 rfl (lv_at hl 5 rfl) ?_
      refine vp_callSi (va_Run.run (sy_runV (As := [.int (nI j_7), .int wt]) (rest := []) (b := (g 3)) ⟨hx, hb, hml, hown, ht⟩ cl_DeviceSets_147 (c_Tellings_keyPart l G (g 3) (fun k => g (4 + k)) nT fI fL j_7 wt (by omega)) hK hPT (va_recv hK.1 hPT (ci := 5) (q0 := 0) rfl rfl) rfl nm_Tellings_keyPart rfl rfl ⟨Nat.le_of_ble_eq_true rfl, Nat.le_of_ble_eq_true rfl⟩ hl.1 (Nat.le_of_ble_eq_true rfl) d_DeviceSets_conflict_50 ⟨Nat.zero_le _, Nat.zero_le _⟩)) (fun r_10 hr_10 => ?_)
      subst hr_10
      exact W.iret (v := tl_part fI wt j_7) hx hb hr (fun t ht hW => ⟨tl_part fI wt j_7, rfl, by simp [xm_conflict, mo_part2, hq_2, hczd, ← ho_5, c_9], ht⟩) (fun q h => by cases h) d_DeviceSets_conflict_53
  · have hq_2 : mo_ok ns d = false := by simpa using hq_2
    have hr_1 : r_1 = none := by rw [hr_1, xa_at, hq_2]; rfl
    subst hr_1
    refine sy_tr (y := .null) rfl ?_
    refine lv_astoreN (lv' := [(4, .null), (0, .ref (g 0)), (1, .int d), (2, .int pk), (3, .int wt)]) hx hb d_DeviceSets_conflict_5 hl (by decide) rfl (fun ls hl => ?_)
    refine lv_aloadN hx hb d_DeviceSets_conflict_7 (lv_at hl 0 rfl) ?_
    refine lv_ifnonnullN hx hb d_DeviceSets_conflict_9 ?_
    refine lv_iconst (v := (-1)) hx hb d_DeviceSets_conflict_12 (by decide) ?_
    exact W.iret (v := (-1 : Int32)) hx hb hr (fun t ht hW => ⟨(-1 : Int32), rfl, by simp [xm_conflict, mo_part2, hq_2], ht⟩) (fun q h => by cases h) d_DeviceSets_conflict_13
set_option maxHeartbeats 4000000 in
set_option maxRecDepth 100000 in
theorem c_DeviceSets_known (l : Launch) (G : sy_G) (g : Nat → Nat) (nd : Nat) (ns : Nat) (nb : Nat) (nT : Nat) (fI : Nat → Nat → Int32) (fL : Nat → Nat → Int64) (nC : Nat) (gI : Nat → Nat → Int32) (gL : Nat → Nat → Int64) (dl : Nat → Nat) (df : Nat → Int64) (dm : Nat → Nat) (dk : Nat → Nat → Nat → Int64) (so : Nat → Int32) (sh : Nat → Nat → Int64) (sv : Nat → Nat → Int64) (d : Int32) (dv : Int32) (kd : Int32) (se : Int64) (wh : Int64) (hd : nd ≤ 4) (hs : ns ≤ 6) (hn : nT ≤ 60) (hc : nC ≤ 20) (hm : ∀ d, d < nd → dm d ≤ 10) : Met l y_DeviceSets_known (sy_w y_DeviceSets_known b_DeviceSets_known 11 (some .long)) { frames := 5, cells := 0, slots := 0, locals := 120 } (va_Pc [.ref (g 0), .int d, .int dv, .int kd, .long se, .long wh] (sy_KP G (fun H => (va_P G.1 classes (xw G.2 g nd ns nb)) H ∧ (va_P G.1 classes (tw G.2 (g 3) (fun k => g (4 + k)) nT fI fL)) H ∧ (va_P G.1 classes (cw G.2 (g 11) (fun k => g (12 + k)) nC gI gL)) H ∧ (∀ d, d < nd → va_P G.1 classes (dw G.2 g dl df dm dk d) H) ∧ (∀ j, j < ns → va_P G.1 classes (sw g so sh sv j) H)))) (vp_Sl (fun r => r = xm_known ns nT nC fI fL gI gL sh d dv kd se wh)) 0 0 (fun _ => False) := by
  refine Met.ofW (cc := b_DeviceSets_known) (maxL := 11) (ret := (some .long)) (by decide) rfl ?_
  intro p e s m args below meth c s₁ B hml hv
  obtain ⟨rfl, ⟨hP, hPT, hPC, hPD, hPS⟩, hK⟩ := hv
  have hx := B.exec
  have hb := B.bytes
  have hr := B.returns
  have hts := atoms_spec (ws := sy_w y_DeviceSets_known b_DeviceSets_known 11 (some .long)) B.pre
  have ht : ∀ wd ∈ sy_T, wd.before ([.ref (g 0), .int d, .int dv, .int kd, .long se, .long wh] : List Value).toArray s = true := fun wd h => hts wd (List.mem_cons_of_mem _ h)
  have hown : s.vm.findClass R_DeviceSets = some m.cls := findClass_of_methodNamed B.named
  have hlocks := B.notSynchronized
  have hl := lv_entry ([.ref (g 0), .int d, .int dv, .int kd, .long se, .long wh]) (n := 11) (Nat.le_of_ble_eq_true rfl)
  rw [lg_entry_eq]
  generalize (lg_sl ([.ref (g 0), .int d, .int dv, .int kd, .long se, .long wh]) ++ List.replicate (11 - (lg_sl ([.ref (g 0), .int d, .int dv, .int kd, .long se, .long wh])).length) Slot.unset).toArray = ls at hl ⊢
  have hl : lv_has ls 11 [(0, .ref (g 0)), (1, .int d), (2, .int dv), (3, .int kd), (4, .long se), (6, .long wh)] := hl
  refine lv_aload_n hx hb d_DeviceSets_known_0 rfl (lv_at hl 0 rfl) ?_
  refine lv_iload_n hx hb d_DeviceSets_known_1 rfl (lv_at hl 1 rfl) ?_
  refine va_csq (va_Run.run (sy_runV (As := [.int d]) (rest := []) (b := (g 0)) ⟨hx, hb, hml, hown, ht⟩ cl_DeviceSets_80 (c_DeviceSets_setAt l G g nd ns nb d (by omega)) hK hP (va_recv hK.1 hP (ci := 0) (q0 := 0) rfl rfl) rfl nm_DeviceSets_setAt rfl rfl ⟨Nat.le_of_ble_eq_true rfl, Nat.le_of_ble_eq_true rfl⟩ hl.1 (Nat.le_of_ble_eq_true rfl) d_DeviceSets_known_2 ⟨Nat.zero_le _, Nat.zero_le _⟩)) (fun r_1 hr_1 => ?_)
  by_cases hq_2 : mo_ok ns d = true
  · obtain ⟨zd, hzd, ezd⟩ := mo_ix (by omega) hq_2
    subst ezd
    have hczd : (nI zd).toNatClampNeg = zd := nI_clamp (by omega)
    have hr_1 : r_1 = some (g (40 + 3 * zd)) := by rw [hr_1, xa_at, if_pos hq_2, hczd]
    subst hr_1
    refine sy_tr (y := .ref (g (40 + 3 * zd))) rfl ?_
    have hPzd := hPS zd hzd
    have hHzd : va_P G.1 classes (hw (g (41 + 3 * zd)) (sh zd)) s.heap := hPzd.sub [1] rfl
    refine lv_astore (lv' := [(8, .ref (g (40 + 3 * zd))), (0, .ref (g 0)), (1, .int (nI zd)), (2, .int dv), (3, .int kd), (4, .long se), (6, .long wh)]) hx hb d_DeviceSets_known_5 hl (by decide) rfl (fun ls hl => ?_)
    refine lv_aload hx hb d_DeviceSets_known_7 (lv_at hl 0 rfl) ?_
    refine lv_ifnonnull (tgt := 16) hx hb d_DeviceSets_known_9 (by decide) ?_
    refine lv_aload_n hx hb d_DeviceSets_known_16 rfl (lv_at hl 1 rfl) ?_
    refine va_get (D := G.1) (ci := 0) (v := .ref (g 3)) (C := R_DeviceSets) (T := F_DeviceSets) (N := 7) hx hb ht i_DeviceSets hown hK.1 hP 0 rfl rfl 2 (by decide) (ht _ m_115) (fun _ h9 => h9) rfl d_DeviceSets_known_17 ?_
    refine lv_aload_n hx hb d_DeviceSets_known_20 rfl (lv_at hl 1 rfl) ?_
    refine lv_aload hx hb d_DeviceSets_known_21 (lv_at hl 0 rfl) ?_
    refine va_getN (D := G.1) (ci := 4) (v := .ref (g (41 + 3 * zd))) (C := R_ToldSet) (T := F_ToldSet) (N := 3) hx hb ht i_ToldSet hown hK.1 hPzd 0 rfl rfl 0 (by decide) (va_Nw.use rfl (hK.2 _ m_248)) (fun _ h9 => h9) rfl d_DeviceSets_known_23 ?_
    refine lv_iload_n hx hb d_DeviceSets_known_26 rfl (lv_at hl 3 rfl) ?_
    refine lv_iload_n hx hb d_DeviceSets_known_27 rfl (lv_at hl 4 rfl) ?_
    refine vp_callSl (va_Run.run (sy_runV (As := [.ref (g (41 + 3 * zd)), .int dv, .int kd]) (rest := [.ref (g 3)]) (b := (g 0)) ⟨hx, hb, hml, hown, ht⟩ cl_DeviceSets_115 (c_DeviceSets_seenIn l G g nd ns nb nT fI fL (g (41 + 3 * zd)) (sh zd) dv kd (by omega)) hK ⟨hP, hPT, hHzd⟩ (va_recv hK.1 hP (ci := 0) (q0 := 0) rfl rfl) rfl nm_DeviceSets_seenIn rfl rfl ⟨Nat.le_of_ble_eq_true rfl, Nat.le_of_ble_eq_true rfl⟩ hl.1 (Nat.le_of_ble_eq_true rfl) d_DeviceSets_known_28 ⟨Nat.zero_le _, Nat.zero_le _⟩)) (fun r_3 hr_3 => ?_)
    subst hr_3
    refine lv_lload hx hb d_DeviceSets_known_31 (lv_at hl 5 rfl) ?_
    refine lv_lload hx hb d_DeviceSets_known_33 (lv_at hl 6 rfl) ?_
    refine vp_callSi (va_Run.run (sy_runV (As := [.long (xl_seen fI fL nT (sh zd) dv kd), .long se, .long wh]) (rest := []) (b := (g 3)) ⟨hx, hb, hml, hown, ht⟩ cl_DeviceSets_126 (c_Tellings_latestKnown l G (g 3) (fun k => g (4 + k)) nT fI fL (xl_seen fI fL nT (sh zd) dv kd) se wh (by omega)) hK hPT (va_recv hK.1 hPT (ci := 5) (q0 := 0) rfl rfl) rfl nm_Tellings_latestKnown rfl rfl ⟨Nat.le_of_ble_eq_true rfl, Nat.le_of_ble_eq_true rfl⟩ hl.1 (Nat.le_of_ble_eq_true rfl) d_DeviceSets_known_35 ⟨Nat.zero_le _, Nat.zero_le _⟩)) (fun r_4 hr_4 => ?_)
    obtain ⟨o_5, ho_5, hr_4⟩ := sy_opt hr_4
    subst hr_4
    refine lv_istore (lv' := [(9, .int (oI o_5)), (8, .ref (g (40 + 3 * zd))), (0, .ref (g 0)), (1, .int (nI zd)), (2, .int dv), (3, .int kd), (4, .long se), (6, .long wh)]) hx hb d_DeviceSets_known_38 hl (by decide) rfl (fun ls hl => ?_)
    refine lv_iload hx hb d_DeviceSets_known_40 (lv_at hl 0 rfl) ?_
    refine lv_iconst (v := (-1)) hx hb d_DeviceSets_known_42 (by decide) ?_
    rcases o_5 with _ | j_7
    · have hl : lv_has ls 11 [(9, .int (-1)), (8, .ref (g (40 + 3 * zd))), (0, .ref (g 0)), (1, .int (nI zd)), (2, .int dv), (3, .int kd), (4, .long se), (6, .long wh)] := hl
      refine lv_icmp_ne (tgt := 50) hx hb d_DeviceSets_known_43 (by decide) (fun c_8 => absurd c_8 (by decide)) (fun c_8 => ?_)
      refine lv_ldc2 (v := (-9223372036854775808)) hx hb hown (ht _ m_326) d_DeviceSets_known_46 ?_
      exact W.lret (v := (-9223372036854775808 : Int64)) hx hb hr (fun t ht hW => ⟨(-9223372036854775808 : Int64), rfl, by simp [xm_known, xm_kv, xm_kw, hq_2, hczd, ← ho_5, c_8], ht⟩) (fun q h => by cases h) d_DeviceSets_known_49
    · have hl : lv_has ls 11 [(9, .int (nI j_7)), (8, .ref (g (40 + 3 * zd))), (0, .ref (g 0)), (1, .int (nI zd)), (2, .int dv), (3, .int kd), (4, .long se), (6, .long wh)] := hl
      have hj_7 : j_7 < 60 := by have := nn_fm_lt ho_5.symm; omega
      refine lv_icmp_ne (tgt := 50) hx hb d_DeviceSets_known_43 (by decide) (fun c_9 => ?_) (fun c_9 => absurd c_9 (oI_ne (by omega)))
      refine lv_aload_n hx hb d_DeviceSets_known_50 rfl (lv_at hl 2 rfl) ?_
      refine va_get (D := G.1) (ci := 0) (v := .ref (g 11)) (C := R_DeviceSets) (T := F_DeviceSets) (N := 7) hx hb ht i_DeviceSets hown hK.1 hP 0 rfl rfl 3 (by decide) (ht _ m_116) (fun _ h9 => h9) rfl d_DeviceSets_known_51 ?_
      refine lv_aload hx hb d_DeviceSets_known_54 (lv_at hl 1 rfl) ?_
      refine va_getN (D := G.1) (ci := 4) (v := .ref (g (41 + 3 * zd))) (C := R_ToldSet) (T := F_ToldSet) (N := 3) hx hb ht i_ToldSet hown hK.1 hPzd 0 rfl rfl 0 (by decide) (va_Nw.use rfl (hK.2 _ m_248)) (fun _ h9 => h9) rfl d_DeviceSets_known_56 ?_
      refine va_getN (D := G.1) (ci := 3) (v := .long (sh zd 1)) (C := R_Held) (T := F_Held) (N := 4) hx hb ht i_Held hown hK.1 hHzd 0 rfl rfl 1 (by decide) (va_Nw.use rfl (hK.2 _ m_233)) (fun _ h9 => h9) rfl d_DeviceSets_known_59 ?_
      refine lv_iload_n hx hb d_DeviceSets_known_62 rfl (lv_at hl 4 rfl) ?_
      refine lv_iload_n hx hb d_DeviceSets_known_63 rfl (lv_at hl 5 rfl) ?_
      refine lv_aload_n hx hb d_DeviceSets_known_64 rfl (lv_at hl 2 rfl) ?_
      refine va_get (D := G.1) (ci := 0) (v := .ref (g 3)) (C := R_DeviceSets) (T := F_DeviceSets) (N := 7) hx hb ht i_DeviceSets hown hK.1 hP 0 rfl rfl 2 (by decide) (ht _ m_115) (fun _ h9 => h9) rfl d_DeviceSets_known_65 ?_
      refine va_getN (D := G.1) (ci := 5) (v := .ref ((fun k => g (4 + k)) 4)) (C := R_Tellings) (T := F_Tellings) (N := 8) hx hb ht i_Tellings hown hK.1 hPT 0 rfl rfl 4 (by decide) (va_Nw.use rfl (hK.2 _ m_63)) (fun _ h9 => h9) rfl d_DeviceSets_known_68 ?_
      refine lv_iload hx hb d_DeviceSets_known_71 (lv_at hl 0 rfl) ?_
      refine sy_lald hx hb hK.1 hPT 5 1 rfl rfl (k := j_7) (by omega) (by decide) d_DeviceSets_known_73 ?_
      refine lv_lload hx hb d_DeviceSets_known_74 (lv_at hl 7 rfl) ?_
      refine vp_callSi (va_Run.run (sy_runV (As := [.long (sh zd 1), .int dv, .int kd, .long (fL 0 j_7), .long wh]) (rest := []) (b := (g 11)) ⟨hx, hb, hml, hown, ht⟩ cl_DeviceSets_133 (c_Corrections_latest l G (g 11) (fun k => g (12 + k)) nC gI gL (sh zd 1) dv kd (fL 0 j_7) wh (by omega)) hK hPC (va_recv hK.1 hPC (ci := 6) (q0 := 0) rfl rfl) rfl nm_Corrections_latest rfl rfl ⟨Nat.le_of_ble_eq_true rfl, Nat.le_of_ble_eq_true rfl⟩ hl.1 (Nat.le_of_ble_eq_true rfl) d_DeviceSets_known_76 ⟨Nat.zero_le _, Nat.zero_le _⟩)) (fun r_10 hr_10 => ?_)
      obtain ⟨o_11, ho_11, hr_10⟩ := sy_opt hr_10
      subst hr_10
      refine lv_istore (lv' := [(10, .int (oI o_11)), (9, .int (nI j_7)), (8, .ref (g (40 + 3 * zd))), (0, .ref (g 0)), (1, .int (nI zd)), (2, .int dv), (3, .int kd), (4, .long se), (6, .long wh)]) hx hb d_DeviceSets_known_79 hl (by decide) rfl (fun ls hl => ?_)
      refine lv_iload hx hb d_DeviceSets_known_81 (lv_at hl 0 rfl) ?_
      refine lv_iconst (v := (-1)) hx hb d_DeviceSets_known_83 (by decide) ?_
      rcases o_11 with _ | j_13
      · have hl : lv_has ls 11 [(10, .int (-1)), (9, .int (nI j_7)), (8, .ref (g (40 + 3 * zd))), (0, .ref (g 0)), (1, .int (nI zd)), (2, .int dv), (3, .int kd), (4, .long se), (6, .long wh)] := hl
        refine lv_icmp_ne (tgt := 100) hx hb d_DeviceSets_known_84 (by decide) (fun c_14 => absurd c_14 (by decide)) (fun c_14 => ?_)
        refine lv_aload_n hx hb d_DeviceSets_known_87 rfl (lv_at hl 3 rfl) ?_
        refine va_get (D := G.1) (ci := 0) (v := .ref (g 3)) (C := R_DeviceSets) (T := F_DeviceSets) (N := 7) hx hb ht i_DeviceSets hown hK.1 hP 0 rfl rfl 2 (by decide) (ht _ m_115) (fun _ h9 => h9) rfl d_DeviceSets_known_88 ?_
        refine va_getN (D := G.1) (ci := 5) (v := .ref ((fun k => g (4 + k)) 5)) (C := R_Tellings) (T := F_Tellings) (N := 8) hx hb ht i_Tellings hown hK.1 hPT 0 rfl rfl 5 (by decide) (va_Nw.use rfl (hK.2 _ m_65)) (fun _ h9 => h9) rfl d_DeviceSets_known_91 ?_
        refine lv_iload hx hb d_DeviceSets_known_94 (lv_at hl 1 rfl) ?_
        refine sy_lald hx hb hK.1 hPT 6 1 rfl rfl (k := j_7) (by omega) (by decide) d_DeviceSets_known_96 ?_
        refine lv_goto (tgt := 110) hx hb d_DeviceSets_known_97 (by decide) ?_
        exact W.lret (v := fL 1 j_7) hx hb hr (fun t ht hW => ⟨fL 1 j_7, rfl, by simp [xm_known, xm_kv, xm_kw, hq_2, hczd, ← ho_5, c_9, ← ho_11, c_14], ht⟩) (fun q h => by cases h) d_DeviceSets_known_110
      · have hl : lv_has ls 11 [(10, .int (nI j_13)), (9, .int (nI j_7)), (8, .ref (g (40 + 3 * zd))), (0, .ref (g 0)), (1, .int (nI zd)), (2, .int dv), (3, .int kd), (4, .long se), (6, .long wh)] := hl
        have hj_13 : j_13 < 20 := by have := nn_fm_lt ho_11.symm; omega
        refine lv_icmp_ne (tgt := 100) hx hb d_DeviceSets_known_84 (by decide) (fun c_15 => ?_) (fun c_15 => absurd c_15 (oI_ne (by omega)))
        refine lv_aload_n hx hb d_DeviceSets_known_100 rfl (lv_at hl 3 rfl) ?_
        refine va_get (D := G.1) (ci := 0) (v := .ref (g 11)) (C := R_DeviceSets) (T := F_DeviceSets) (N := 7) hx hb ht i_DeviceSets hown hK.1 hP 0 rfl rfl 3 (by decide) (ht _ m_116) (fun _ h9 => h9) rfl d_DeviceSets_known_101 ?_
        refine va_getN (D := G.1) (ci := 6) (v := .ref ((fun k => g (12 + k)) 3)) (C := R_Corrections) (T := F_Corrections) (N := 6) hx hb ht i_Corrections hown hK.1 hPC 0 rfl rfl 3 (by decide) (va_Nw.use rfl (hK.2 _ m_97)) (fun _ h9 => h9) rfl d_DeviceSets_known_104 ?_
        refine lv_iload hx hb d_DeviceSets_known_107 (lv_at hl 0 rfl) ?_
        refine sy_lald hx hb hK.1 hPC 4 1 rfl rfl (k := j_13) (by omega) (by decide) d_DeviceSets_known_109 ?_
        exact W.lret (v := gL 1 j_13) hx hb hr (fun t ht hW => ⟨gL 1 j_13, rfl, by simp [xm_known, xm_kv, xm_kw, hq_2, hczd, ← ho_5, c_9, ← ho_11, c_15], ht⟩) (fun q h => by cases h) d_DeviceSets_known_110
  · have hq_2 : mo_ok ns d = false := by simpa using hq_2
    have hr_1 : r_1 = none := by rw [hr_1, xa_at, hq_2]; rfl
    subst hr_1
    refine sy_tr (y := .null) rfl ?_
    refine lv_astoreN (lv' := [(8, .null), (0, .ref (g 0)), (1, .int d), (2, .int dv), (3, .int kd), (4, .long se), (6, .long wh)]) hx hb d_DeviceSets_known_5 hl (by decide) rfl (fun ls hl => ?_)
    refine lv_aloadN hx hb d_DeviceSets_known_7 (lv_at hl 0 rfl) ?_
    refine lv_ifnonnullN hx hb d_DeviceSets_known_9 ?_
    refine lv_ldc2 (v := (-9223372036854775808)) hx hb hown (ht _ m_326) d_DeviceSets_known_12 ?_
    exact W.lret (v := (-9223372036854775808 : Int64)) hx hb hr (fun t ht hW => ⟨(-9223372036854775808 : Int64), rfl, by simp [xm_known, xm_kv, xm_kw, hq_2], ht⟩) (fun q h => by cases h) d_DeviceSets_known_15
