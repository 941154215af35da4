set_option maxHeartbeats 4000000 in
set_option maxRecDepth 100000 in
theorem c_DeviceSets_endBatch (l : Launch) (G : sy_G) (g : Nat → Nat) (nd : Nat) (ns : Nat) (nb : Nat) (z : Nat) (so : Nat → Int32) (sh : Nat → Nat → Int64) (sv : Nat → Nat → Int64) (b : Int32) (hz : z < ns) (hs : ns ≤ 6) (hb0 : ¬ b < 0) (hf : nn_ff (fun i => decide (so i = b)) ns = some z) : Met l y_DeviceSets_endBatch (sy_w y_DeviceSets_endBatch b_DeviceSets_endBatch 4 (some .boolean)) { frames := 3, cells := 0, slots := 0, locals := 66 } (va_Pc [.ref (g 0), .int b] (sy_KP G (fun H => va_P G.1 classes (xw G.2 g nd ns nb ++ sq (g (40 + 3 * z)) (g (41 + 3 * z)) (g (42 + 3 * z)) (so z) (sh z) (sv z)) H ∧ va_D (fun _ => True) (xw G.2 g nd ns nb ++ sq (g (40 + 3 * z)) (g (41 + 3 * z)) (g (42 + 3 * z)) (so z) (sh z) (sv z)) ∧ (∀ j, j < ns → va_P G.1 classes (sw g so sh sv j) H)))) (va_Qi (S := (Int32 × (Nat → Int64) × (Nat → Int64))) (fun r u => r = bI ((true, (-1 : Int32), he_join (sh z) (sv z), he_zero (sv z))).1 ∧ u = ((true, (-1 : Int32), he_join (sh z) (sv z), he_zero (sv z))).2) (fun u t => va_P G.1 classes (xw G.2 g nd ns nb ++ sq (g (40 + 3 * z)) (g (41 + 3 * z)) (g (42 + 3 * z)) u.1 u.2.1 u.2.2) t.heap) (sy_A (xw G.2 g nd ns nb ++ sq (g (40 + 3 * z)) (g (41 + 3 * z)) (g (42 + 3 * z)) (so z) (sh z) (sv z)))) 0 0 (sy_A (xw G.2 g nd ns nb ++ sq (g (40 + 3 * z)) (g (41 + 3 * z)) (g (42 + 3 * z)) (so z) (sh z) (sv z))) := by
  refine Met.ofW (cc := b_DeviceSets_endBatch) (maxL := 4) (ret := (some .boolean)) (by decide) rfl ?_
  intro p e s m args below meth c s₁ B hml hv
  obtain ⟨rfl, ⟨hP, hD0, hPS⟩, hK⟩ := hv
  have hx := B.exec
  have hb := B.bytes
  have hr := B.returns
  have hts := atoms_spec (ws := sy_w y_DeviceSets_endBatch b_DeviceSets_endBatch 4 (some .boolean)) B.pre
  have ht : ∀ wd ∈ sy_T, wd.before ([.ref (g 0), .int b] : List Value).toArray s = true := fun wd h => hts wd (List.mem_cons_of_mem _ h)
  have hown : s.vm.findClass R_DeviceSets = some m.cls := findClass_of_methodNamed B.named
  have hlocks := B.notSynchronized
  have hD := sy_self hD0
  generalize hAe : sy_A (xw G.2 g nd ns nb ++ sq (g (40 + 3 * z)) (g (41 + 3 * z)) (g (42 + 3 * z)) (so z) (sh z) (sv z)) = A at hD ⊢
  have hS : va_S A s.heap s.heap [] := va_S.rf
  have hl := lv_entry ([.ref (g 0), .int b]) (n := 4) (Nat.le_of_ble_eq_true rfl)
  rw [lg_entry_eq]
  generalize (lg_sl ([.ref (g 0), .int b]) ++ List.replicate (4 - (lg_sl ([.ref (g 0), .int b])).length) Slot.unset).toArray = ls at hl ⊢
  have hl : lv_has ls 4 [(0, .ref (g 0)), (1, .int b)] := hl
  refine lv_iload_n hx hb d_DeviceSets_endBatch_0 rfl (lv_at hl 1 rfl) ?_
  refine lv_if_ge (tgt := 6) hx hb d_DeviceSets_endBatch_1 (by decide) (fun c_1 => ?_) (fun c_1 => ?_)
  · have c_1n := sy_c32 c_1
    refine lv_iconst (v := 0) hx hb d_DeviceSets_endBatch_6 (by decide) ?_
    refine lv_istore_n (lv' := [(2, .int 0), (0, .ref (g 0)), (1, .int b)]) hx hb d_DeviceSets_endBatch_7 rfl hl (by decide) rfl (fun ls hl => ?_)
    refine sy_loop (σ := Nat) (nL := 4) (fun k => ns - k) (fun k => [(2, .int (nI k)), (0, .ref (g 0)), (1, .int b)]) (fun k => k ≤ z) ?_ 0 ?_ (lv_sub hl [0, 1, 2] rfl)
    · intro k ls hI hl ih8
      have hl : lv_has ls 4 [(2, .int (nI k)), (0, .ref (g 0)), (1, .int b)] := hl
      obtain hk := hI
      refine lv_iload_n hx hb d_DeviceSets_endBatch_8 rfl (lv_at hl 0 rfl) ?_
      refine lv_aload_n hx hb d_DeviceSets_endBatch_9 rfl (lv_at hl 1 rfl) ?_
      refine va_get (D := G.1) (ci := 0) (v := .int (nI ns)) (C := R_DeviceSets) (T := F_DeviceSets) (N := 7) hx hb ht i_DeviceSets hown hK.1 hP 0 rfl rfl 5 (by decide) (ht _ m_118) (fun _ h9 => h9) rfl d_DeviceSets_endBatch_10 ?_
      refine lv_icmp_ge (tgt := 46) hx hb d_DeviceSets_endBatch_13 (by decide) (fun c_2 => ?_) (fun c_2 => ?_)
      · have c_2 : ns ≤ k := (nI_leI (a := ns) (b := k) (by omega) (by omega)).mp c_2
        have c_2n : ¬ k < ns := by omega
        exfalso; omega
      · have c_2 : ¬ ns ≤ k := fun h9 => c_2 ((nI_leI (a := ns) (b := k) (by omega) (by omega)).mpr h9)
        have c_2n : k < ns := by omega
        refine lv_aload_n hx hb d_DeviceSets_endBatch_16 rfl (lv_at hl 1 rfl) ?_
        refine lv_iload_n hx hb d_DeviceSets_endBatch_17 rfl (lv_at hl 0 rfl) ?_
        refine va_csq (va_Run.run (sy_runV (As := [.int (nI k)]) (rest := []) (b := (g 0)) ⟨hx, hb, hml, hown, ht⟩ cl_DeviceSets_80 (c_DeviceSets_setAt l G g nd ns nb (nI k) (by omega)) hK (hP.sub [0, 1, 2] rfl) (va_recv hK.1 hP (ci := 0) (q0 := 0) rfl rfl) rfl nm_DeviceSets_setAt rfl rfl ⟨Nat.le_of_ble_eq_true rfl, Nat.le_of_ble_eq_true rfl⟩ hl.1 (Nat.le_of_ble_eq_true rfl) d_DeviceSets_endBatch_18 ⟨Nat.zero_le _, Nat.zero_le _⟩)) (fun r_3 hr_3 => ?_)
        by_cases hkz : k = z
        · subst hkz
          have hq9 : mo_ok ns (nI k) = true := by simp [mo_ok, nI_pos' (show k < 2 ^ 31 by omega), nI_lt (show k < ns by omega) (show ns < 2 ^ 31 by omega)]
          have hr_3 : r_3 = some (g (40 + 3 * k)) := by rw [hr_3, xa_at, if_pos hq9, nI_clamp (show k < 2 ^ 31 by omega)]
          subst hr_3
          refine sy_tr (y := .ref (g (40 + 3 * k))) rfl ?_
          refine lv_astore_n (lv' := [(3, .ref (g (40 + 3 * k))), (2, .int (nI k)), (0, .ref (g 0)), (1, .int b)]) hx hb d_DeviceSets_endBatch_21 rfl hl (by decide) rfl (fun ls hl => ?_)
          refine lv_aload_n hx hb d_DeviceSets_endBatch_22 rfl (lv_at hl 0 rfl) ?_
          refine lv_ifnull hx hb d_DeviceSets_endBatch_23 ?_
          refine lv_aload_n hx hb d_DeviceSets_endBatch_26 rfl (lv_at hl 0 rfl) ?_
          refine va_getN (D := G.1) (ci := 4) (v := .int (so k)) (C := R_ToldSet) (T := F_ToldSet) (N := 3) hx hb ht i_ToldSet hown hK.1 hP 3 rfl rfl 2 (by decide) (va_Nw.use rfl (hK.2 _ m_251)) (fun _ h9 => h9) rfl d_DeviceSets_endBatch_27 ?_
          refine lv_iload_n hx hb d_DeviceSets_endBatch_30 rfl (lv_at hl 3 rfl) ?_
          refine lv_icmp_ne (tgt := 40) hx hb d_DeviceSets_endBatch_31 (by decide) (fun c_4 => ?_) (fun c_4 => ?_)
          · exfalso; have h8 := (nn_ff_lt hf).2; simp [c_2, c_2n, c_4] at h8; done
          · refine lv_aload_n hx hb d_DeviceSets_endBatch_34 rfl (lv_at hl 0 rfl) ?_
            have hPc : va_P G.1 classes (sq (g (40 + 3 * k)) (g (41 + 3 * k)) (g (42 + 3 * k)) (so k) (sh k) (sv k)) s.heap := hP.sub [3, 4, 5] rfl
            have hDc : va_D A (sq (g (40 + 3 * k)) (g (41 + 3 * k)) (g (42 + 3 * k)) (so k) (sh k) (sv k)) := hD.sub [3, 4, 5] (by decide) rfl
            refine va_callv (sy_runV (As := []) (rest := []) (b := (g (40 + 3 * k))) ⟨hx, hb, hml, hown, ht⟩ cl_DeviceSets_178 (c_ToldSet_takeWaiting l G (g (40 + 3 * k)) (g (41 + 3 * k)) (g (42 + 3 * k)) (so k) (sh k) (sv k)) hK ⟨hPc, sy_any hDc⟩ (va_recv hK.1 hPc (ci := 4) (q0 := 0) rfl rfl) rfl nm_ToldSet_takeWaiting rfl rfl ⟨Nat.le_of_ble_eq_true rfl, Nat.le_of_ble_eq_true rfl⟩ hl.1 (Nat.le_of_ble_eq_true rfl) d_DeviceSets_endBatch_35 ⟨Nat.zero_le _, Nat.zero_le _⟩) hS (fun q _ h => sy_in hDc h) (fun q h => sy_in hDc h) (fun u_6 t9 H9 locs ht9 hvm9 hw9 hB9 hz9 hk9 hS => ?_)
            subst hw9
            rw [ht9] at hB9
            have hP : va_P G.1 classes (xw G.2 g nd ns nb ++ sq (g (40 + 3 * k)) (g (41 + 3 * k)) (g (42 + 3 * k)) (-1 : Int32) (he_join (sh k) (sv k)) (he_zero (sv k))) H9 := sy_mix (wc := sq (g (40 + 3 * k)) (g (41 + 3 * k)) (g (42 + 3 * k)) (so k) (sh k) (sv k)) hP hD [3, 4, 5] rfl rfl hk9 hB9
            have hD : va_D A (xw G.2 g nd ns nb ++ sq (g (40 + 3 * k)) (g (41 + 3 * k)) (g (42 + 3 * k)) (-1 : Int32) (he_join (sh k) (sv k)) (he_zero (sv k))) := sy_Da hD rfl
            generalize H9 = H at hP hS ⊢
            refine lv_iconst (v := 1) hx hb d_DeviceSets_endBatch_38 (by decide) ?_
            exact W.zret (v := (1 : Int32)) hx hb hr (rfl) (fun t ht hW => ⟨⟨(1 : Int32), ((-1 : Int32), he_join (sh k) (sv k), he_zero (sv k)), rfl, by constructor <;> simp [bI], by show va_P _ _ _ t.heap; rw [ht]; exact hP⟩, hS.F ht⟩) hS.2.2 d_DeviceSets_endBatch_39
        · have hq9 : mo_ok ns (nI k) = true := by simp [mo_ok, nI_pos' (show k < 2 ^ 31 by omega), nI_lt (show k < ns by omega) (show ns < 2 ^ 31 by omega)]
          have hr_3 : r_3 = some (g (40 + 3 * k)) := by rw [hr_3, xa_at, if_pos hq9, nI_clamp (show k < 2 ^ 31 by omega)]
          subst hr_3
          refine sy_tr (y := .ref (g (40 + 3 * k))) rfl ?_
          have hPk := hPS k (by omega)
          refine lv_astore_n (lv' := [(3, .ref (g (40 + 3 * k))), (2, .int (nI k)), (0, .ref (g 0)), (1, .int b)]) hx hb d_DeviceSets_endBatch_21 rfl hl (by decide) rfl (fun ls hl => ?_)
          refine lv_aload_n hx hb d_DeviceSets_endBatch_22 rfl (lv_at hl 0 rfl) ?_
          refine lv_ifnull hx hb d_DeviceSets_endBatch_23 ?_
          refine lv_aload_n hx hb d_DeviceSets_endBatch_26 rfl (lv_at hl 0 rfl) ?_
          refine va_getN (D := G.1) (ci := 4) (v := .int (so k)) (C := R_ToldSet) (T := F_ToldSet) (N := 3) hx hb ht i_ToldSet hown hK.1 hPk 0 rfl rfl 2 (by decide) (va_Nw.use rfl (hK.2 _ m_251)) (fun _ h9 => h9) rfl d_DeviceSets_endBatch_27 ?_
          refine lv_iload_n hx hb d_DeviceSets_endBatch_30 rfl (lv_at hl 3 rfl) ?_
          refine lv_icmp_ne (tgt := 40) hx hb d_DeviceSets_endBatch_31 (by decide) (fun c_7 => ?_) (fun c_7 => ?_)
          · refine lv_iinc (v := nI (k + 1)) (lv' := [(2, .int (nI (k + 1))), (3, .ref (g (40 + 3 * k))), (0, .ref (g 0)), (1, .int b)]) hx hb d_DeviceSets_endBatch_40 hl (k := 1) rfl (nI_add k 1) (by decide) rfl (fun ls hl => ?_)
            refine lv_goto (tgt := 8) hx hb d_DeviceSets_endBatch_43 (by decide) ?_
            refine ih8 (k + 1) ls (show ns - (k + 1) < ns - k by omega) ?_ (lv_sub hl [0, 2, 3] rfl)
            exact (by omega)
          · exfalso; have h8 := nn_ff_min hf k (by omega); simp [c_2, c_2n, c_7] at h8; done
    · exact Nat.zero_le _
  · have c_1n := sy_d32 c_1
    exfalso; exact hb0 (by assumption)
