set_option maxHeartbeats 4000000 in
set_option maxRecDepth 100000 in
theorem c_DeviceSets_deviceAt (l : Launch) (G : sy_G) (g : Nat → Nat) (nd : Nat) (ns : Nat) (nb : Nat) (d : Int32) (hd : nd ≤ 4) : Met l y_DeviceSets_deviceAt (sy_w y_DeviceSets_deviceAt b_DeviceSets_deviceAt 2 (some (.object "DeviceSets$Device"))) { frames := 0, cells := 0, slots := 0, locals := 0 } (va_Pc [.ref (g 0), .int d] (sy_KP G (va_P G.1 classes (xw G.2 g nd ns nb)))) (va_Sq (fun r => r = xa_at g 20 4 nd d)) 0 0 (fun _ => False) := by
  refine Met.ofW (cc := b_DeviceSets_deviceAt) (maxL := 2) (ret := (some (.object "DeviceSets$Device"))) (by decide) rfl ?_
  intro p e s m args below meth c s₁ B hml hv
  obtain ⟨rfl, hP, hK⟩ := hv
  have hx := B.exec
  have hb := B.bytes
  have hr := B.returns
  have hts := atoms_spec (ws := sy_w y_DeviceSets_deviceAt b_DeviceSets_deviceAt 2 (some (.object "DeviceSets$Device"))) B.pre
  have ht : ∀ wd ∈ sy_T, wd.before ([.ref (g 0), .int d] : List Value).toArray s = true := fun wd h => hts wd (List.mem_cons_of_mem _ h)
  have hown : s.vm.findClass R_DeviceSets = some m.cls := findClass_of_methodNamed B.named
  have hlocks := B.notSynchronized
  have hl := lv_entry ([.ref (g 0), .int d]) (n := 2) (Nat.le_of_ble_eq_true rfl)
  rw [lg_entry_eq]
  generalize (lg_sl ([.ref (g 0), .int d]) ++ List.replicate (2 - (lg_sl ([.ref (g 0), .int d])).length) Slot.unset).toArray = ls at hl ⊢
  have hl : lv_has ls 2 [(0, .ref (g 0)), (1, .int d)] := hl
  refine lv_iload_n hx hb d_DeviceSets_deviceAt_0 rfl (lv_at hl 1 rfl) ?_
  refine lv_if_lt (tgt := 21) hx hb d_DeviceSets_deviceAt_1 (by decide) (fun c_1 => ?_) (fun c_1 => ?_)
  · have c_1n := sy_a32 c_1
    refine lv_null hx hb d_DeviceSets_deviceAt_21 ?_
    exact W.aret (v := .null) (rt := .object "DeviceSets$Device") hx hb hr (Or.inl ⟨_, rfl⟩) (Or.inl rfl) (fun t ht hW => ⟨none, rfl, by simp [xa_at, mo_ok, c_1, c_1n], ht⟩) (fun q h => by cases h) d_DeviceSets_deviceAt_22
  · have c_1n := sy_b32 c_1
    refine lv_iload_n hx hb d_DeviceSets_deviceAt_4 rfl (lv_at hl 1 rfl) ?_
    refine lv_aload_n hx hb d_DeviceSets_deviceAt_5 rfl (lv_at hl 0 rfl) ?_
    refine va_get (D := G.1) (ci := 0) (v := .int (nI nd)) (C := R_DeviceSets) (T := F_DeviceSets) (N := 7) hx hb ht i_DeviceSets hown hK.1 hP 0 rfl rfl 4 (by decide) (ht _ m_117) (fun _ h9 => h9) rfl d_DeviceSets_deviceAt_6 ?_
    refine lv_icmp_ge (tgt := 21) hx hb d_DeviceSets_deviceAt_9 (by decide) (fun c_2 => ?_) (fun c_2 => ?_)
    · have c_2n := sy_c32 c_2
      refine lv_null hx hb d_DeviceSets_deviceAt_21 ?_
      exact W.aret (v := .null) (rt := .object "DeviceSets$Device") hx hb hr (Or.inl ⟨_, rfl⟩) (Or.inl rfl) (fun t ht hW => ⟨none, rfl, by simp [xa_at, mo_ok, c_1, c_1n, c_2, c_2n], ht⟩) (fun q h => by cases h) d_DeviceSets_deviceAt_22
    · have c_2n := sy_d32 c_2
      obtain ⟨z, hz, ez⟩ := mo_ix (n := nd) (d := d) (by omega) (by simp [mo_ok, c_1, c_1n, c_2, c_2n]; done)
      subst ez
      have hcz : (nI z).toNatClampNeg = z := nI_clamp (by omega)
      refine lv_aload_n hx hb d_DeviceSets_deviceAt_12 rfl (lv_at hl 0 rfl) ?_
      refine va_get (D := G.1) (ci := 0) (v := .ref (g 1)) (C := R_DeviceSets) (T := F_DeviceSets) (N := 7) hx hb ht i_DeviceSets hown hK.1 hP 0 rfl rfl 0 (by decide) (ht _ m_113) (fun _ h9 => h9) rfl d_DeviceSets_deviceAt_13 ?_
      refine lv_iload_n hx hb d_DeviceSets_deviceAt_16 rfl (lv_at hl 1 rfl) ?_
      refine sy_aldq hx hb hK.1 hP 1 3 rfl rfl (k := z) (by omega) (by decide) d_DeviceSets_deviceAt_17 ?_
      refine sy_tr (y := .ref (g (20 + 4 * z))) (by simp only [if_pos (show z < nd by omega)]; rfl) ?_
      refine lv_goto (tgt := 22) hx hb d_DeviceSets_deviceAt_18 (by decide) ?_
      exact W.aret (v := .ref (g (20 + 4 * z))) (rt := .object "DeviceSets$Device") hx hb hr (Or.inl ⟨_, rfl⟩) (Or.inr ⟨_, rfl⟩) (fun t ht hW => ⟨some (g (20 + 4 * z)), rfl, by simp [xa_at, mo_ok, c_1, c_1n, c_2, c_2n, hcz], ht⟩) (fun q h => by cases h) d_DeviceSets_deviceAt_22
set_option maxHeartbeats 4000000 in
set_option maxRecDepth 100000 in
theorem c_DeviceSets_setAt (l : Launch) (G : sy_G) (g : Nat → Nat) (nd : Nat) (ns : Nat) (nb : Nat) (d : Int32) (hd : ns ≤ 6) : Met l y_DeviceSets_setAt (sy_w y_DeviceSets_setAt b_DeviceSets_setAt 2 (some (.object "DeviceSets$ToldSet"))) { frames := 0, cells := 0, slots := 0, locals := 0 } (va_Pc [.ref (g 0), .int d] (sy_KP G (va_P G.1 classes (xw G.2 g nd ns nb)))) (va_Sq (fun r => r = xa_at g 40 3 ns d)) 0 0 (fun _ => False) := by
  refine Met.ofW (cc := b_DeviceSets_setAt) (maxL := 2) (ret := (some (.object "DeviceSets$ToldSet"))) (by decide) rfl ?_
  intro p e s m args below meth c s₁ B hml hv
  obtain ⟨rfl, hP, hK⟩ := hv
  have hx := B.exec
  have hb := B.bytes
  have hr := B.returns
  have hts := atoms_spec (ws := sy_w y_DeviceSets_setAt b_DeviceSets_setAt 2 (some (.object "DeviceSets$ToldSet"))) B.pre
  have ht : ∀ wd ∈ sy_T, wd.before ([.ref (g 0), .int d] : List Value).toArray s = true := fun wd h => hts wd (List.mem_cons_of_mem _ h)
  have hown : s.vm.findClass R_DeviceSets = some m.cls := findClass_of_methodNamed B.named
  have hlocks := B.notSynchronized
  have hl := lv_entry ([.ref (g 0), .int d]) (n := 2) (Nat.le_of_ble_eq_true rfl)
  rw [lg_entry_eq]
  generalize (lg_sl ([.ref (g 0), .int d]) ++ List.replicate (2 - (lg_sl ([.ref (g 0), .int d])).length) Slot.unset).toArray = ls at hl ⊢
  have hl : lv_has ls 2 [(0, .ref (g 0)), (1, .int d)] := hl
  refine lv_iload_n hx hb d_DeviceSets_setAt_0 rfl (lv_at hl 1 rfl) ?_
  refine lv_if_lt (tgt := 21) hx hb d_DeviceSets_setAt_1 (by decide) (fun c_1 => ?_) (fun c_1 => ?_)
  · have c_1n := sy_a32 c_1
    refine lv_null hx hb d_DeviceSets_setAt_21 ?_
    exact W.aret (v := .null) (rt := .object "DeviceSets$ToldSet") hx hb hr (Or.inl ⟨_, rfl⟩) (Or.inl rfl) (fun t ht hW => ⟨none, rfl, by simp [xa_at, mo_ok, c_1, c_1n], ht⟩) (fun q h => by cases h) d_DeviceSets_setAt_22
  · have c_1n := sy_b32 c_1
    refine lv_iload_n hx hb d_DeviceSets_setAt_4 rfl (lv_at hl 1 rfl) ?_
    refine lv_aload_n hx hb d_DeviceSets_setAt_5 rfl (lv_at hl 0 rfl) ?_
    refine va_get (D := G.1) (ci := 0) (v := .int (nI ns)) (C := R_DeviceSets) (T := F_DeviceSets) (N := 7) hx hb ht i_DeviceSets hown hK.1 hP 0 rfl rfl 5 (by decide) (ht _ m_118) (fun _ h9 => h9) rfl d_DeviceSets_setAt_6 ?_
    refine lv_icmp_ge (tgt := 21) hx hb d_DeviceSets_setAt_9 (by decide) (fun c_2 => ?_) (fun c_2 => ?_)
    · have c_2n := sy_c32 c_2
      refine lv_null hx hb d_DeviceSets_setAt_21 ?_
      exact W.aret (v := .null) (rt := .object "DeviceSets$ToldSet") hx hb hr (Or.inl ⟨_, rfl⟩) (Or.inl rfl) (fun t ht hW => ⟨none, rfl, by simp [xa_at, mo_ok, c_1, c_1n, c_2, c_2n], ht⟩) (fun q h => by cases h) d_DeviceSets_setAt_22
    · have c_2n := sy_d32 c_2
      obtain ⟨z, hz, ez⟩ := mo_ix (n := ns) (d := d) (by omega) (by simp [mo_ok, c_1, c_1n, c_2, c_2n]; done)
      subst ez
      have hcz : (nI z).toNatClampNeg = z := nI_clamp (by omega)
      refine lv_aload_n hx hb d_DeviceSets_setAt_12 rfl (lv_at hl 0 rfl) ?_
      refine va_get (D := G.1) (ci := 0) (v := .ref (g 2)) (C := R_DeviceSets) (T := F_DeviceSets) (N := 7) hx hb ht i_DeviceSets hown hK.1 hP 0 rfl rfl 1 (by decide) (ht _ m_114) (fun _ h9 => h9) rfl d_DeviceSets_setAt_13 ?_
      refine lv_iload_n hx hb d_DeviceSets_setAt_16 rfl (lv_at hl 1 rfl) ?_
      refine sy_aldq hx hb hK.1 hP 2 4 rfl rfl (k := z) (by omega) (by decide) d_DeviceSets_setAt_17 ?_
      refine sy_tr (y := .ref (g (40 + 3 * z))) (by simp only [if_pos (show z < ns by omega)]; rfl) ?_
      refine lv_goto (tgt := 22) hx hb d_DeviceSets_setAt_18 (by decide) ?_
      exact W.aret (v := .ref (g (40 + 3 * z))) (rt := .object "DeviceSets$ToldSet") hx hb hr (Or.inl ⟨_, rfl⟩) (Or.inr ⟨_, rfl⟩) (fun t ht hW => ⟨some (g (40 + 3 * z)), rfl, by simp [xa_at, mo_ok, c_1, c_1n, c_2, c_2n, hcz], ht⟩) (fun q h => by cases h) d_DeviceSets_setAt_22
set_option maxHeartbeats 4000000 in
set_option maxRecDepth 100000 in
theorem c_DeviceSets_liveIn (l : Launch) (G : sy_G) (g : Nat → Nat) (nd : Nat) (ns : Nat) (nb : Nat) (nT : Nat) (fI : Nat → Nat → Int32) (fL : Nat → Nat → Int64) (ha : Nat) (hf : Nat → Int64) (hn : nT ≤ 60) : Met l y_DeviceSets_liveIn (sy_w y_DeviceSets_liveIn b_DeviceSets_liveIn 2 (some .long)) { frames := 3, cells := 0, slots := 0, locals := 69 } (va_Pc [.ref (g 0), .ref ha] (sy_KP G (fun H => (va_P G.1 classes (xw G.2 g nd ns nb)) H ∧ (va_P G.1 classes (tw G.2 (g 3) (fun k => g (4 + k)) nT fI fL)) H ∧ (va_P G.1 classes (hw ha hf)) H))) (vp_Sl (fun r => r = xl_live fL nT hf)) 0 0 (fun _ => False) := by
  refine Met.ofW (cc := b_DeviceSets_liveIn) (maxL := 2) (ret := (some .long)) (by decide) rfl ?_
  intro p e s m args below meth c s₁ B hml hv
  obtain ⟨rfl, ⟨hP, hPT, hPH⟩, hK⟩ := hv
  have hx := B.exec
  have hb := B.bytes
  have hr := B.returns
  have hts := atoms_spec (ws := sy_w y_DeviceSets_liveIn b_DeviceSets_liveIn 2 (some .long)) B.pre
  have ht : ∀ wd ∈ sy_T, wd.before ([.ref (g 0), .ref ha] : List Value).toArray s = true := fun wd h => hts wd (List.mem_cons_of_mem _ h)
  have hown : s.vm.findClass R_DeviceSets = some m.cls := findClass_of_methodNamed B.named
  have hlocks := B.notSynchronized
  have hl := lv_entry ([.ref (g 0), .ref ha]) (n := 2) (Nat.le_of_ble_eq_true rfl)
  rw [lg_entry_eq]
  generalize (lg_sl ([.ref (g 0), .ref ha]) ++ List.replicate (2 - (lg_sl ([.ref (g 0), .ref ha])).length) Slot.unset).toArray = ls at hl ⊢
  have hl : lv_has ls 2 [(0, .ref (g 0)), (1, .ref ha)] := hl
  refine lv_aload_n hx hb d_DeviceSets_liveIn_0 rfl (lv_at hl 0 rfl) ?_
  refine va_get (D := G.1) (ci := 0) (v := .ref (g 3)) (C := R_DeviceSets) (T := F_DeviceSets) (N := 7) hx hb ht i_DeviceSets hown hK.1 hP 0 rfl rfl 2 (by decide) (ht _ m_115) (fun _ h9 => h9) rfl d_DeviceSets_liveIn_1 ?_
  refine lv_aload_n hx hb d_DeviceSets_liveIn_4 rfl (lv_at hl 1 rfl) ?_
  refine va_getN (D := G.1) (ci := 3) (v := .long (hf 3)) (C := R_Held) (T := F_Held) (N := 4) hx hb ht i_Held hown hK.1 hPH 0 rfl rfl 3 (by decide) (va_Nw.use rfl (hK.2 _ m_237)) (fun _ h9 => h9) rfl d_DeviceSets_liveIn_5 ?_
  refine lv_aload_n hx hb d_DeviceSets_liveIn_8 rfl (lv_at hl 1 rfl) ?_
  refine va_getN (D := G.1) (ci := 3) (v := .long (hf 0)) (C := R_Held) (T := F_Held) (N := 4) hx hb ht i_Held hown hK.1 hPH 0 rfl rfl 0 (by decide) (va_Nw.use rfl (hK.2 _ m_231)) (fun _ h9 => h9) rfl d_DeviceSets_liveIn_9 ?_
  refine vp_callSl (va_Run.run (sy_runV (As := [.long (hf 3), .long (hf 0)]) (rest := []) (b := (g 3)) ⟨hx, hb, hml, hown, ht⟩ cl_DeviceSets_228 (c_Tellings_notBelow l G (g 3) (fun k => g (4 + k)) nT fI fL (hf 3) (hf 0) (by omega)) hK hPT (va_recv hK.1 hPT (ci := 5) (q0 := 0) rfl rfl) rfl nm_Tellings_notBelow rfl rfl ⟨Nat.le_of_ble_eq_true rfl, Nat.le_of_ble_eq_true rfl⟩ hl.1 (Nat.le_of_ble_eq_true rfl) d_DeviceSets_liveIn_12 ⟨Nat.zero_le _, Nat.zero_le _⟩)) (fun r_1 hr_1 => ?_)
  subst hr_1
  exact W.lret (v := tl_nb fL nT (hf 3) (hf 0)) hx hb hr (fun t ht hW => ⟨tl_nb fL nT (hf 3) (hf 0), rfl, rfl, ht⟩) (fun q h => by cases h) d_DeviceSets_liveIn_15
set_option maxHeartbeats 4000000 in
set_option maxRecDepth 100000 in
theorem c_DeviceSets_conflictsIn (l : Launch) (G : sy_G) (g : Nat → Nat) (nd : Nat) (ns : Nat) (nb : Nat) (nT : Nat) (fI : Nat → Nat → Int32) (fL : Nat → Nat → Int64) (ha : Nat) (hf : Nat → Int64) (hn : nT ≤ 60) : Met l y_DeviceSets_conflictsIn (sy_w y_DeviceSets_conflictsIn b_DeviceSets_conflictsIn 2 (some .long)) { frames := 4, cells := 0, slots := 0, locals := 99 } (va_Pc [.ref (g 0), .ref ha] (sy_KP G (fun H => (va_P G.1 classes (xw G.2 g nd ns nb)) H ∧ (va_P G.1 classes (tw G.2 (g 3) (fun k => g (4 + k)) nT fI fL)) H ∧ (va_P G.1 classes (hw ha hf)) H))) (vp_Sl (fun r => r = xl_conf fI fL nT hf)) 0 0 (fun _ => False) := by
  refine Met.ofW (cc := b_DeviceSets_conflictsIn) (maxL := 2) (ret := (some .long)) (by decide) rfl ?_
  intro p e s m args below meth c s₁ B hml hv
  obtain ⟨rfl, ⟨hP, hPT, hPH⟩, hK⟩ := hv
  have hx := B.exec
  have hb := B.bytes
  have hr := B.returns
  have hts := atoms_spec (ws := sy_w y_DeviceSets_conflictsIn b_DeviceSets_conflictsIn 2 (some .long)) B.pre
  have ht : ∀ wd ∈ sy_T, wd.before ([.ref (g 0), .ref ha] : List Value).toArray s = true := fun wd h => hts wd (List.mem_cons_of_mem _ h)
  have hown : s.vm.findClass R_DeviceSets = some m.cls := findClass_of_methodNamed B.named
  have hlocks := B.notSynchronized
  have hl := lv_entry ([.ref (g 0), .ref ha]) (n := 2) (Nat.le_of_ble_eq_true rfl)
  rw [lg_entry_eq]
  generalize (lg_sl ([.ref (g 0), .ref ha]) ++ List.replicate (2 - (lg_sl ([.ref (g 0), .ref ha])).length) Slot.unset).toArray = ls at hl ⊢
  have hl : lv_has ls 2 [(0, .ref (g 0)), (1, .ref ha)] := hl
  refine lv_aload_n hx hb d_DeviceSets_conflictsIn_0 rfl (lv_at hl 0 rfl) ?_
  refine va_get (D := G.1) (ci := 0) (v := .ref (g 3)) (C := R_DeviceSets) (T := F_DeviceSets) (N := 7) hx hb ht i_DeviceSets hown hK.1 hP 0 rfl rfl 2 (by decide) (ht _ m_115) (fun _ h9 => h9) rfl d_DeviceSets_conflictsIn_1 ?_
  refine lv_aload_n hx hb d_DeviceSets_conflictsIn_4 rfl (lv_at hl 0 rfl) ?_
  refine lv_aload_n hx hb d_DeviceSets_conflictsIn_5 rfl (lv_at hl 1 rfl) ?_
  refine vp_callSl (va_Run.run (sy_runV (As := [.ref ha]) (rest := [.ref (g 3)]) (b := (g 0)) ⟨hx, hb, hml, hown, ht⟩ cl_DeviceSets_158 (c_DeviceSets_liveIn l G g nd ns nb nT fI fL ha hf (by omega)) hK ⟨hP, hPT, hPH⟩ (va_recv hK.1 hP (ci := 0) (q0 := 0) rfl rfl) rfl nm_DeviceSets_liveIn rfl rfl ⟨Nat.le_of_ble_eq_true rfl, Nat.le_of_ble_eq_true rfl⟩ hl.1 (Nat.le_of_ble_eq_true rfl) d_DeviceSets_conflictsIn_6 ⟨Nat.zero_le _, Nat.zero_le _⟩)) (fun r_1 hr_1 => ?_)
  subst hr_1
  refine lv_aload_n hx hb d_DeviceSets_conflictsIn_9 rfl (lv_at hl 1 rfl) ?_
  refine va_getN (D := G.1) (ci := 3) (v := .long (hf 2)) (C := R_Held) (T := F_Held) (N := 4) hx hb ht i_Held hown hK.1 hPH 0 rfl rfl 2 (by decide) (va_Nw.use rfl (hK.2 _ m_235)) (fun _ h9 => h9) rfl d_DeviceSets_conflictsIn_10 ?_
  refine vp_callSl (va_Run.run (sy_runV (As := [.long (xl_live fL nT hf), .long (hf 2)]) (rest := []) (b := (g 3)) ⟨hx, hb, hml, hown, ht⟩ cl_DeviceSets_231 (c_Tellings_unsettled l G (g 3) (fun k => g (4 + k)) nT fI fL (xl_live fL nT hf) (hf 2) (by omega)) hK hPT (va_recv hK.1 hPT (ci := 5) (q0 := 0) rfl rfl) rfl nm_Tellings_unsettled rfl rfl ⟨Nat.le_of_ble_eq_true rfl, Nat.le_of_ble_eq_true rfl⟩ hl.1 (Nat.le_of_ble_eq_true rfl) d_DeviceSets_conflictsIn_13 ⟨Nat.zero_le _, Nat.zero_le _⟩)) (fun r_2 hr_2 => ?_)
  subst hr_2
  exact W.lret (v := tl_us fI nT (xl_live fL nT hf) (hf 2)) hx hb hr (fun t ht hW => ⟨tl_us fI nT (xl_live fL nT hf) (hf 2), rfl, rfl, ht⟩) (fun q h => by cases h) d_DeviceSets_conflictsIn_16
set_option maxHeartbeats 4000000 in
set_option maxRecDepth 100000 in
theorem c_DeviceSets_seenIn (l : Launch) (G : sy_G) (g : Nat → Nat) (nd : Nat) (ns : Nat) (nb : Nat) (nT : Nat) (fI : Nat → Nat → Int32) (fL : Nat → Nat → Int64) (ha : Nat) (hf : Nat → Int64) (dv : Int32) (kd : Int32) (hn : nT ≤ 60) : Met l y_DeviceSets_seenIn (sy_w y_DeviceSets_seenIn b_DeviceSets_seenIn 4 (some .long)) { frames := 4, cells := 0, slots := 0, locals := 97 } (va_Pc [.ref (g 0), .ref ha, .int dv, .int kd] (sy_KP G (fun H => (va_P G.1 classes (xw G.2 g nd ns nb)) H ∧ (va_P G.1 classes (tw G.2 (g 3) (fun k => g (4 + k)) nT fI fL)) H ∧ (va_P G.1 classes (hw ha hf)) H))) (vp_Sl (fun r => r = xl_seen fI fL nT hf dv kd)) 0 0 (fun _ => False) := by
  refine Met.ofW (cc := b_DeviceSets_seenIn) (maxL := 4) (ret := (some .long)) (by decide) rfl ?_
  intro p e s m args below meth c s₁ B hml hv
  obtain ⟨rfl, ⟨hP, hPT, hPH⟩, hK⟩ := hv
  have hx := B.exec
  have hb := B.bytes
  have hr := B.returns
  have hts := atoms_spec (ws := sy_w y_DeviceSets_seenIn b_DeviceSets_seenIn 4 (some .long)) B.pre
  have ht : ∀ wd ∈ sy_T, wd.before ([.ref (g 0), .ref ha, .int dv, .int kd] : List Value).toArray s = true := fun wd h => hts wd (List.mem_cons_of_mem _ h)
  have hown : s.vm.findClass R_DeviceSets = some m.cls := findClass_of_methodNamed B.named
  have hlocks := B.notSynchronized
  have hl := lv_entry ([.ref (g 0), .ref ha, .int dv, .int kd]) (n := 4) (Nat.le_of_ble_eq_true rfl)
  rw [lg_entry_eq]
  generalize (lg_sl ([.ref (g 0), .ref ha, .int dv, .int kd]) ++ List.replicate (4 - (lg_sl ([.ref (g 0), .ref ha, .int dv, .int kd])).length) Slot.unset).toArray = ls at hl ⊢
  have hl : lv_has ls 4 [(0, .ref (g 0)), (1, .ref ha), (2, .int dv), (3, .int kd)] := hl
  refine lv_aload_n hx hb d_DeviceSets_seenIn_0 rfl (lv_at hl 0 rfl) ?_
  refine va_get (D := G.1) (ci := 0) (v := .ref (g 3)) (C := R_DeviceSets) (T := F_DeviceSets) (N := 7) hx hb ht i_DeviceSets hown hK.1 hP 0 rfl rfl 2 (by decide) (ht _ m_115) (fun _ h9 => h9) rfl d_DeviceSets_seenIn_1 ?_
  refine lv_aload_n hx hb d_DeviceSets_seenIn_4 rfl (lv_at hl 0 rfl) ?_
  refine lv_aload_n hx hb d_DeviceSets_seenIn_5 rfl (lv_at hl 1 rfl) ?_
  refine vp_callSl (va_Run.run (sy_runV (As := [.ref ha]) (rest := [.ref (g 3)]) (b := (g 0)) ⟨hx, hb, hml, hown, ht⟩ cl_DeviceSets_158 (c_DeviceSets_liveIn l G g nd ns nb nT fI fL ha hf (by omega)) hK ⟨hP, hPT, hPH⟩ (va_recv hK.1 hP (ci := 0) (q0 := 0) rfl rfl) rfl nm_DeviceSets_liveIn rfl rfl ⟨Nat.le_of_ble_eq_true rfl, Nat.le_of_ble_eq_true rfl⟩ hl.1 (Nat.le_of_ble_eq_true rfl) d_DeviceSets_seenIn_6 ⟨Nat.zero_le _, Nat.zero_le _⟩)) (fun r_1 hr_1 => ?_)
  subst hr_1
  refine lv_aload_n hx hb d_DeviceSets_seenIn_9 rfl (lv_at hl 0 rfl) ?_
  refine va_get (D := G.1) (ci := 0) (v := .ref (g 3)) (C := R_DeviceSets) (T := F_DeviceSets) (N := 7) hx hb ht i_DeviceSets hown hK.1 hP 0 rfl rfl 2 (by decide) (ht _ m_115) (fun _ h9 => h9) rfl d_DeviceSets_seenIn_10 ?_
  refine lv_iload_n hx hb d_DeviceSets_seenIn_13 rfl (lv_at hl 2 rfl) ?_
  refine lv_iload_n hx hb d_DeviceSets_seenIn_14 rfl (lv_at hl 3 rfl) ?_
  refine vp_callSl (va_Run.run (sy_runV (As := [.int dv, .int kd]) (rest := [.long (xl_live fL nT hf), .ref (g 3)]) (b := (g 3)) ⟨hx, hb, hml, hown, ht⟩ cl_DeviceSets_151 (c_Tellings_ofKind l G (g 3) (fun k => g (4 + k)) nT fI fL dv kd (by omega)) hK hPT (va_recv hK.1 hPT (ci := 5) (q0 := 0) rfl rfl) rfl nm_Tellings_ofKind rfl rfl ⟨Nat.le_of_ble_eq_true rfl, Nat.le_of_ble_eq_true rfl⟩ hl.1 (Nat.le_of_ble_eq_true rfl) d_DeviceSets_seenIn_15 ⟨Nat.zero_le _, Nat.zero_le _⟩)) (fun r_2 hr_2 => ?_)
  subst hr_2
  refine lv_land hx hb d_DeviceSets_seenIn_18 ?_
  refine lv_aload_n hx hb d_DeviceSets_seenIn_19 rfl (lv_at hl 1 rfl) ?_
  refine va_getN (D := G.1) (ci := 3) (v := .long (hf 2)) (C := R_Held) (T := F_Held) (N := 4) hx hb ht i_Held hown hK.1 hPH 0 rfl rfl 2 (by decide) (va_Nw.use rfl (hK.2 _ m_235)) (fun _ h9 => h9) rfl d_DeviceSets_seenIn_20 ?_
  refine vp_callSl (va_Run.run (sy_runV (As := [.long ((xl_live fL nT hf) &&& (tl_ofK fI nT dv kd)), .long (hf 2)]) (rest := []) (b := (g 3)) ⟨hx, hb, hml, hown, ht⟩ cl_DeviceSets_234 (c_Tellings_holding l G (g 3) (fun k => g (4 + k)) nT fI fL ((xl_live fL nT hf) &&& (tl_ofK fI nT dv kd)) (hf 2) (by omega)) hK hPT (va_recv hK.1 hPT (ci := 5) (q0 := 0) rfl rfl) rfl nm_Tellings_holding rfl rfl ⟨Nat.le_of_ble_eq_true rfl, Nat.le_of_ble_eq_true rfl⟩ hl.1 (Nat.le_of_ble_eq_true rfl) d_DeviceSets_seenIn_23 ⟨Nat.zero_le _, Nat.zero_le _⟩)) (fun r_3 hr_3 => ?_)
  subst hr_3
  exact W.lret (v := tl_hold fI fL nT ((xl_live fL nT hf) &&& (tl_ofK fI nT dv kd)) (hf 2)) hx hb hr (fun t ht hW => ⟨tl_hold fI fL nT ((xl_live fL nT hf) &&& (tl_ofK fI nT dv kd)) (hf 2), rfl, rfl, ht⟩) (fun q h => by cases h) d_DeviceSets_seenIn_26
