set_option maxHeartbeats 4000000 in
set_option maxRecDepth 100000 in
theorem c_Model_bring (l : Launch) (G : sy_G) (ob : Nat) (ad : Nat → Nat) (sc : Nat → Nat) (mI : Nat → Nat → Int32) (mL : Nat → Nat → Int64) (mZ : Nat → Nat → Bool) (to : Nat) (fr : Nat) (hto : to < 12) (hfr : fr < 12) : Met l y_Model_bring (sy_w y_Model_bring b_Model_bring 7 (some .boolean)) { frames := 0, cells := 0, slots := 0, locals := 0 } (va_Pc [.ref ob, .int (nI to), .int (nI fr)] (sy_KP G (fun H => va_P G.1 classes (mw G.2 ob ad sc mI mL mZ) H ∧ va_D (fun _ => True) (mw G.2 ob ad sc mI mL mZ)))) (va_Qi (S := ms_S) (fun r u => r = bI (mo_bring sc mI mL mZ to fr).1 ∧ u = (mo_bring sc mI mL mZ to fr).2) (fun u t => va_P G.1 classes (mw G.2 ob ad u.1 u.2.1 u.2.2.1 u.2.2.2) t.heap) (sy_A (mw G.2 ob ad sc mI mL mZ))) 0 0 (sy_A (mw G.2 ob ad sc mI mL mZ)) := by
  refine Met.ofW (cc := b_Model_bring) (maxL := 7) (ret := (some .boolean)) (by decide) rfl ?_
  intro p e s m args below meth c s₁ B hml hv
  obtain ⟨rfl, ⟨hP, hD0⟩, hK⟩ := hv
  have hx := B.exec
  have hb := B.bytes
  have hr := B.returns
  have hts := atoms_spec (ws := sy_w y_Model_bring b_Model_bring 7 (some .boolean)) B.pre
  have ht : ∀ wd ∈ sy_T, wd.before ([.ref ob, .int (nI to), .int (nI fr)] : List Value).toArray s = true := fun wd h => hts wd (List.mem_cons_of_mem _ h)
  have hown : s.vm.findClass R_Model = some m.cls := findClass_of_methodNamed B.named
  have hlocks := B.notSynchronized
  have hD := sy_self hD0
  generalize hAe : sy_A (mw G.2 ob ad sc mI mL mZ) = A at hD ⊢
  have hS : va_S A s.heap s.heap [] := va_S.rf
  have hl := lv_entry ([.ref ob, .int (nI to), .int (nI fr)]) (n := 7) (Nat.le_of_ble_eq_true rfl)
  rw [lg_entry_eq]
  generalize (lg_sl ([.ref ob, .int (nI to), .int (nI fr)]) ++ List.replicate (7 - (lg_sl ([.ref ob, .int (nI to), .int (nI fr)])).length) Slot.unset).toArray = ls at hl ⊢
  have hl : lv_has ls 7 [(0, .ref ob), (1, .int (nI to)), (2, .int (nI fr))] := hl
  refine sy_cut (σ := Bool) (nL := 7) (pc2 := 21) (fun b21 => [(0, .ref ob), (1, .int (nI to)), (2, .int (nI fr))]) (fun b21 => [.int (bI b21)]) (fun b21 => b21 = decide (mL 13 to < mL 13 fr)) ?_ ?_
  · intro b21 ls hI21 hl
    have hl : lv_has ls 7 [(0, .ref ob), (1, .int (nI to)), (2, .int (nI fr))] := hl
    have e21 := hI21
    refine lv_istore_n (lv' := [(3, .int (bI b21)), (0, .ref ob), (1, .int (nI to)), (2, .int (nI fr))]) hx hb d_Model_bring_21 rfl hl (by decide) rfl (fun ls hl => ?_)
    refine lv_aload_n hx hb d_Model_bring_22 rfl (lv_at hl 1 rfl) ?_
    refine va_get (D := G.1) (ci := 7) (v := .ref (ad 13)) (C := R_Model) (T := F_Model) (N := 23) hx hb ht i_Model hown hK.1 hP 0 rfl rfl 18 (by decide) (ht _ m_523) (fun _ h9 => h9) rfl d_Model_bring_23 ?_
    refine lv_iload_n hx hb d_Model_bring_26 rfl (lv_at hl 2 rfl) ?_
    refine sy_cut (σ := Int64) (nL := 7) (pc2 := 46) (fun b46 => [(3, .int (bI b21)), (0, .ref ob), (1, .int (nI to)), (2, .int (nI fr))]) (fun b46 => [.long b46, .int (nI to), .ref (ad 13)]) (fun b46 => b46 = if mL 13 to < mL 13 fr then mL 13 fr else mL 13 to) ?_ ?_
    · intro b46 ls hI46 hl
      have hl : lv_has ls 7 [(3, .int (bI b21)), (0, .ref ob), (1, .int (nI to)), (2, .int (nI fr))] := hl
      have e46 := hI46
      refine sy_last hx hb hK.1 hP hD hS 14 1 rfl rfl (k := to) (by omega) (by decide) d_Model_bring_46 (fun H locs hP hD hS => ?_)
      rw [mw_s13] at hP hD
      refine lv_iconst (v := 0) hx hb d_Model_bring_47 (by decide) ?_
      refine lv_istore (lv' := [(4, .int 0), (3, .int (bI b21)), (0, .ref ob), (1, .int (nI to)), (2, .int (nI fr))]) hx hb d_Model_bring_48 hl (by decide) rfl (fun ls hl => ?_)
      refine sy_loopH (σ := Nat × Bool) (nL := 7) (fun x50 => match x50 with | (k, g) => 60 - k) (fun x50 => match x50 with | (k, g) => [(4, .int (nI k)), (3, .int (bI g)), (0, .ref ob), (1, .int (nI to)), (2, .int (nI fr))]) (fun x50 H locs => match x50 with | (k, g) => k ≤ 60 ∧ g = jb_g mL mZ to fr k ∧ va_P G.1 classes (mw G.2 ob ad sc mI (va_up mL 13 (jb_b mL to fr)) (va_up (va_up mZ 10 (jb_h mZ to fr k)) 11 (jb_c mZ to fr k))) H ∧ va_D A (mw G.2 ob ad sc mI (va_up mL 13 (jb_b mL to fr)) (va_up (va_up mZ 10 (jb_h mZ to fr k)) 11 (jb_c mZ to fr k))) ∧ va_S A s.heap H locs) ?_ (0, b21) ?_ (lv_sub hl [0, 1, 2, 3, 4] rfl)
      · intro x50 H locs ls hI hl ih50
        obtain ⟨k, g⟩ := x50
        have hl : lv_has ls 7 [(4, .int (nI k)), (3, .int (bI g)), (0, .ref ob), (1, .int (nI to)), (2, .int (nI fr))] := hl
        obtain ⟨hk, hg, hP, hD, hS⟩ := hI
        refine lv_iload hx hb d_Model_bring_50 (lv_at hl 0 rfl) ?_
        refine lv_bipush (v := 60) hx hb d_Model_bring_52 (by decide) ?_
        refine lv_icmp_ge (tgt := 195) hx hb d_Model_bring_54 (by decide) (fun c_1 => ?_) (fun c_1 => ?_)
        · have c_1 : 60 ≤ k := (nI_leI (a := 60) (b := k) (by omega) (by omega)).mp c_1
          have c_1n : ¬ k < 60 := by omega
          refine lv_iconst (v := 0) hx hb d_Model_bring_195 (by decide) ?_
          refine lv_istore (lv' := [(4, .int 0), (3, .int (bI g)), (0, .ref ob), (1, .int (nI to)), (2, .int (nI fr))]) hx hb d_Model_bring_196 hl (by decide) rfl (fun ls hl => ?_)
          refine sy_loopH (σ := Nat × Bool) (nL := 7) (fun x198 => match x198 with | (q, g2) => 20 - q) (fun x198 => match x198 with | (q, g2) => [(4, .int (nI q)), (3, .int (bI g2)), (0, .ref ob), (1, .int (nI to)), (2, .int (nI fr))]) (fun x198 H locs => match x198 with | (q, g2) => q ≤ 20 ∧ g2 = jb_e mL mZ to fr q ∧ va_P G.1 classes (mw G.2 ob ad sc mI (va_up mL 13 (jb_b mL to fr)) (va_up (va_up (va_up mZ 10 (jb_h mZ to fr 60)) 11 (jb_c mZ to fr 60)) 12 (jb_f mZ to fr q))) H ∧ va_D A (mw G.2 ob ad sc mI (va_up mL 13 (jb_b mL to fr)) (va_up (va_up (va_up mZ 10 (jb_h mZ to fr 60)) 11 (jb_c mZ to fr 60)) 12 (jb_f mZ to fr q))) ∧ va_S A s.heap H locs) ?_ (0, g) ?_ (lv_sub hl [0, 1, 2, 3, 4] rfl)
          · intro x198 H locs ls hI hl ih198
            obtain ⟨q, g2⟩ := x198
            have hl : lv_has ls 7 [(4, .int (nI q)), (3, .int (bI g2)), (0, .ref ob), (1, .int (nI to)), (2, .int (nI fr))] := hl
            obtain ⟨hq, hg2, hP, hD, hS⟩ := hI
            refine lv_iload hx hb d_Model_bring_198 (lv_at hl 0 rfl) ?_
            refine lv_bipush (v := 20) hx hb d_Model_bring_200 (by decide) ?_
            refine lv_icmp_ge (tgt := 291) hx hb d_Model_bring_202 (by decide) (fun c_2 => ?_) (fun c_2 => ?_)
            · have c_2 : 20 ≤ q := (nI_leI (a := 20) (b := q) (by omega) (by omega)).mp c_2
              have c_2n : ¬ q < 20 := by omega
              refine lv_iload_n hx hb d_Model_bring_291 rfl (lv_at hl 1 rfl) ?_
              exact W.zret (v := bI g2) hx hb hr (bI_n _) (fun t ht hW => ⟨⟨bI g2, (sc, mI, va_up mL 13 (jb_b mL to fr), va_up (va_up (va_up mZ 10 (jb_h mZ to fr 60)) 11 (jb_c mZ to fr 60)) 12 (jb_f mZ to fr q)), rfl, ⟨by rw [hg2, show q = 20 by omega]; rfl, by rw [show q = 20 by omega]; rfl⟩, by show va_P _ _ _ t.heap; rw [ht]; exact hP⟩, hS.F ht⟩) hS.2.2 d_Model_bring_292
            · have c_2 : ¬ 20 ≤ q := fun h9 => c_2 ((nI_leI (a := 20) (b := q) (by omega) (by omega)).mpr h9)
              have c_2n : q < 20 := by omega
              refine lv_bipush (v := 20) hx hb d_Model_bring_205 (by decide) ?_
              refine lv_iload_n hx hb d_Model_bring_207 rfl (lv_at hl 3 rfl) ?_
              refine lv_imul hx hb d_Model_bring_208 ?_
              refine sy_ti (y := nI (20 * to)) (pk_mul 20 to) ?_
              refine lv_iload hx hb d_Model_bring_209 (lv_at hl 0 rfl) ?_
              refine lv_iadd hx hb d_Model_bring_211 ?_
              refine sy_ti (y := nI ((20 * to) + q)) (nI_add (20 * to) q) ?_
              refine lv_istore (lv' := [(5, .int (nI ((20 * to) + q))), (4, .int (nI q)), (3, .int (bI g2)), (0, .ref ob), (1, .int (nI to)), (2, .int (nI fr))]) hx hb d_Model_bring_212 hl (by decide) rfl (fun ls hl => ?_)
              refine lv_bipush (v := 20) hx hb d_Model_bring_214 (by decide) ?_
              refine lv_iload_n hx hb d_Model_bring_216 rfl (lv_at hl 5 rfl) ?_
              refine lv_imul hx hb d_Model_bring_217 ?_
              refine sy_ti (y := nI (20 * fr)) (pk_mul 20 fr) ?_
              refine lv_iload hx hb d_Model_bring_218 (lv_at hl 1 rfl) ?_
              refine lv_iadd hx hb d_Model_bring_220 ?_
              refine sy_ti (y := nI ((20 * fr) + q)) (nI_add (20 * fr) q) ?_
              refine lv_istore (lv' := [(6, .int (nI ((20 * fr) + q))), (5, .int (nI ((20 * to) + q))), (4, .int (nI q)), (3, .int (bI g2)), (0, .ref ob), (1, .int (nI to)), (2, .int (nI fr))]) hx hb d_Model_bring_221 hl (by decide) rfl (fun ls hl => ?_)
              refine sy_cut (σ := Bool) (nL := 7) (pc2 := 252) (fun b252 => [(6, .int (nI ((20 * fr) + q))), (5, .int (nI ((20 * to) + q))), (4, .int (nI q)), (0, .ref ob), (1, .int (nI to)), (2, .int (nI fr))]) (fun b252 => [.int (bI b252)]) (fun b252 => b252 = (g2 || ((jb_f mZ to fr q) (20 * fr + q) && !(jb_f mZ to fr q) (20 * to + q)))) ?_ ?_
              · intro b252 ls hI252 hl
                have hl : lv_has ls 7 [(6, .int (nI ((20 * fr) + q))), (5, .int (nI ((20 * to) + q))), (4, .int (nI q)), (0, .ref ob), (1, .int (nI to)), (2, .int (nI fr))] := hl
                have e252 := hI252
                refine lv_istore_n (lv' := [(3, .int (bI b252)), (6, .int (nI ((20 * fr) + q))), (5, .int (nI ((20 * to) + q))), (4, .int (nI q)), (0, .ref ob), (1, .int (nI to)), (2, .int (nI fr))]) hx hb d_Model_bring_252 rfl hl (by decide) rfl (fun ls hl => ?_)
                refine lv_aload_n hx hb d_Model_bring_253 rfl (lv_at hl 4 rfl) ?_
                refine va_get (D := G.1) (ci := 7) (v := .ref (ad 12)) (C := R_Model) (T := F_Model) (N := 23) hx hb ht i_Model hown hK.1 hP 0 rfl rfl 17 (by decide) (ht _ m_522) (fun _ h9 => h9) rfl d_Model_bring_254 ?_
                refine lv_iload hx hb d_Model_bring_257 (lv_at hl 2 rfl) ?_
                refine sy_cut (σ := Bool) (nL := 7) (pc2 := 284) (fun b284 => [(3, .int (bI b252)), (6, .int (nI ((20 * fr) + q))), (5, .int (nI ((20 * to) + q))), (4, .int (nI q)), (0, .ref ob), (1, .int (nI to)), (2, .int (nI fr))]) (fun b284 => [.int (bI b284), .int (nI ((20 * to) + q)), .ref (ad 12)]) (fun b284 => b284 = ((jb_f mZ to fr q) (20 * to + q) || (jb_f mZ to fr q) (20 * fr + q))) ?_ ?_
                · intro b284 ls hI284 hl
                  have hl : lv_has ls 7 [(3, .int (bI b252)), (6, .int (nI ((20 * fr) + q))), (5, .int (nI ((20 * to) + q))), (4, .int (nI q)), (0, .ref ob), (1, .int (nI to)), (2, .int (nI fr))] := hl
                  have e284 := hI284
                  refine sy_zast hx hb hK.1 hP hD hS 13 2 rfl rfl (k := (20 * to) + q) (b := b284) (by omega) (by decide) d_Model_bring_284 (fun H locs hP hD hS => ?_)
                  rw [show (va_up (va_up (va_up mZ 10 (jb_h mZ to fr 60)) 11 (jb_c mZ to fr 60)) 12 (jb_f mZ to fr q)) 12 = jb_f mZ to fr q from rfl, mw_s12, bx_uu] at hP hD
                  refine lv_iinc (v := nI (q + 1)) (lv' := [(4, .int (nI (q + 1))), (3, .int (bI b252)), (6, .int (nI ((20 * fr) + q))), (5, .int (nI ((20 * to) + q))), (0, .ref ob), (1, .int (nI to)), (2, .int (nI fr))]) hx hb d_Model_bring_285 hl (k := 3) rfl (nI_add q 1) (by decide) rfl (fun ls hl => ?_)
                  refine lv_goto (tgt := 198) hx hb d_Model_bring_288 (by decide) ?_
                  refine ih198 (q + 1, b252) _ _ ls (show 20 - (q + 1) < 20 - q by omega) ?_ (lv_sub hl [0, 1, 4, 5, 6] rfl)
                  exact ⟨by omega, by rw [jb_e, ← hg2]; exact e252, by rw [jb_f, ← e284]; exact hP, by rw [jb_f, ← e284]; exact hD, hS⟩
                · intro cut284
                  refine lv_aload_n hx hb d_Model_bring_259 rfl (lv_at hl 4 rfl) ?_
                  refine va_get (D := G.1) (ci := 7) (v := .ref (ad 12)) (C := R_Model) (T := F_Model) (N := 23) hx hb ht i_Model hown hK.1 hP 0 rfl rfl 17 (by decide) (ht _ m_522) (fun _ h9 => h9) rfl d_Model_bring_260 ?_
                  refine lv_iload hx hb d_Model_bring_263 (lv_at hl 2 rfl) ?_
                  refine sy_zald hx hb hK.1 hP 13 2 rfl rfl (k := (20 * to) + q) (by omega) (by decide) d_Model_bring_265 ?_
                  refine sy_ti (y := bI (jb_f mZ to fr q ((20 * to) + q))) rfl ?_
                  refine lv_if_ne (tgt := 279) hx hb d_Model_bring_266 (by decide) (fun c_3 => ?_) (fun c_3 => ?_)
                  · have c_3 : (jb_f mZ to fr q ((20 * to) + q)) = true := bI_t c_3
                    refine lv_iconst (v := 1) hx hb d_Model_bring_279 (by decide) ?_
                    refine lv_goto (tgt := 284) hx hb d_Model_bring_280 (by decide) ?_
                    refine cut284 true ls ?_ (lv_sub hl [0, 1, 2, 3, 4, 5, 6] rfl)
                    simp [c_2, c_2n, c_3]
                  · have c_3 : (jb_f mZ to fr q ((20 * to) + q)) = false := bI_f c_3
                    refine lv_aload_n hx hb d_Model_bring_269 rfl (lv_at hl 4 rfl) ?_
                    refine va_get (D := G.1) (ci := 7) (v := .ref (ad 12)) (C := R_Model) (T := F_Model) (N := 23) hx hb ht i_Model hown hK.1 hP 0 rfl rfl 17 (by decide) (ht _ m_522) (fun _ h9 => h9) rfl d_Model_bring_270 ?_
                    refine lv_iload hx hb d_Model_bring_273 (lv_at hl 1 rfl) ?_
                    refine sy_zald hx hb hK.1 hP 13 2 rfl rfl (k := (20 * fr) + q) (by omega) (by decide) d_Model_bring_275 ?_
                    refine sy_ti (y := bI (jb_f mZ to fr q ((20 * fr) + q))) rfl ?_
                    refine lv_if_eq (tgt := 283) hx hb d_Model_bring_276 (by decide) (fun c_4 => ?_) (fun c_4 => ?_)
                    · have c_4 : (jb_f mZ to fr q ((20 * fr) + q)) = false := bI_f c_4
                      refine lv_iconst (v := 0) hx hb d_Model_bring_283 (by decide) ?_
                      refine cut284 false ls ?_ (lv_sub hl [0, 1, 2, 3, 4, 5, 6] rfl)
                      simp [c_2, c_2n, c_3, c_4]
                    · have c_4 : (jb_f mZ to fr q ((20 * fr) + q)) = true := bI_t c_4
                      refine lv_iconst (v := 1) hx hb d_Model_bring_279 (by decide) ?_
                      refine lv_goto (tgt := 284) hx hb d_Model_bring_280 (by decide) ?_
                      refine cut284 true ls ?_ (lv_sub hl [0, 1, 2, 3, 4, 5, 6] rfl)
                      simp [c_2, c_2n, c_3, c_4]
              · intro cut252
                refine lv_iload_n hx hb d_Model_bring_223 rfl (lv_at hl 3 rfl) ?_
                refine lv_if_ne (tgt := 247) hx hb d_Model_bring_224 (by decide) (fun c_5 => ?_) (fun c_5 => ?_)
                · have c_5 : g2 = true := bI_t c_5
                  refine lv_iconst (v := 1) hx hb d_Model_bring_247 (by decide) ?_
                  refine lv_goto (tgt := 252) hx hb d_Model_bring_248 (by decide) ?_
                  refine cut252 true ls ?_ (lv_sub hl [0, 1, 2, 4, 5, 6] rfl)
                  simp [c_2, c_2n, c_5]
                · have c_5 : g2 = false := bI_f c_5
                  refine lv_aload_n hx hb d_Model_bring_227 rfl (lv_at hl 4 rfl) ?_
                  refine va_get (D := G.1) (ci := 7) (v := .ref (ad 12)) (C := R_Model) (T := F_Model) (N := 23) hx hb ht i_Model hown hK.1 hP 0 rfl rfl 17 (by decide) (ht _ m_522) (fun _ h9 => h9) rfl d_Model_bring_228 ?_
                  refine lv_iload hx hb d_Model_bring_231 (lv_at hl 0 rfl) ?_
                  refine sy_zald hx hb hK.1 hP 13 2 rfl rfl (k := (20 * fr) + q) (by omega) (by decide) d_Model_bring_233 ?_
                  refine sy_ti (y := bI (jb_f mZ to fr q ((20 * fr) + q))) rfl ?_
                  refine lv_if_eq (tgt := 251) hx hb d_Model_bring_234 (by decide) (fun c_6 => ?_) (fun c_6 => ?_)
                  · have c_6 : (jb_f mZ to fr q ((20 * fr) + q)) = false := bI_f c_6
                    refine lv_iconst (v := 0) hx hb d_Model_bring_251 (by decide) ?_
                    refine cut252 false ls ?_ (lv_sub hl [0, 1, 2, 4, 5, 6] rfl)
                    simp [c_2, c_2n, c_5, c_6]
                  · have c_6 : (jb_f mZ to fr q ((20 * fr) + q)) = true := bI_t c_6
                    refine lv_aload_n hx hb d_Model_bring_237 rfl (lv_at hl 4 rfl) ?_
                    refine va_get (D := G.1) (ci := 7) (v := .ref (ad 12)) (C := R_Model) (T := F_Model) (N := 23) hx hb ht i_Model hown hK.1 hP 0 rfl rfl 17 (by decide) (ht _ m_522) (fun _ h9 => h9) rfl d_Model_bring_238 ?_
                    refine lv_iload hx hb d_Model_bring_241 (lv_at hl 1 rfl) ?_
                    refine sy_zald hx hb hK.1 hP 13 2 rfl rfl (k := (20 * to) + q) (by omega) (by decide) d_Model_bring_243 ?_
                    refine sy_ti (y := bI (jb_f mZ to fr q ((20 * to) + q))) rfl ?_
                    refine lv_if_ne (tgt := 251) hx hb d_Model_bring_244 (by decide) (fun c_7 => ?_) (fun c_7 => ?_)
                    · have c_7 : (jb_f mZ to fr q ((20 * to) + q)) = true := bI_t c_7
                      refine lv_iconst (v := 0) hx hb d_Model_bring_251 (by decide) ?_
                      refine cut252 false ls ?_ (lv_sub hl [0, 1, 2, 4, 5, 6] rfl)
                      simp [c_2, c_2n, c_5, c_6, c_7]
                    · have c_7 : (jb_f mZ to fr q ((20 * to) + q)) = false := bI_f c_7
                      refine lv_iconst (v := 1) hx hb d_Model_bring_247 (by decide) ?_
                      refine lv_goto (tgt := 252) hx hb d_Model_bring_248 (by decide) ?_
                      refine cut252 true ls ?_ (lv_sub hl [0, 1, 2, 4, 5, 6] rfl)
                      simp [c_2, c_2n, c_5, c_6, c_7]
          · exact ⟨Nat.zero_le _, by rw [hg, show k = 60 by omega]; rfl, by rw [show k = 60 by omega] at hP; exact hP, by rw [show k = 60 by omega] at hD; exact hD, hS⟩
        · have c_1 : ¬ 60 ≤ k := fun h9 => c_1 ((nI_leI (a := 60) (b := k) (by omega) (by omega)).mpr h9)
          have c_1n : k < 60 := by omega
          refine lv_bipush (v := 60) hx hb d_Model_bring_57 (by decide) ?_
          refine lv_iload_n hx hb d_Model_bring_59 rfl (lv_at hl 3 rfl) ?_
          refine lv_imul hx hb d_Model_bring_60 ?_
          refine sy_ti (y := nI (60 * to)) (pk_mul 60 to) ?_
          refine lv_iload hx hb d_Model_bring_61 (lv_at hl 0 rfl) ?_
          refine lv_iadd hx hb d_Model_bring_63 ?_
          refine sy_ti (y := nI ((60 * to) + k)) (nI_add (60 * to) k) ?_
          refine lv_istore (lv' := [(5, .int (nI ((60 * to) + k))), (4, .int (nI k)), (3, .int (bI g)), (0, .ref ob), (1, .int (nI to)), (2, .int (nI fr))]) hx hb d_Model_bring_64 hl (by decide) rfl (fun ls hl => ?_)
          refine lv_bipush (v := 60) hx hb d_Model_bring_66 (by decide) ?_
          refine lv_iload_n hx hb d_Model_bring_68 rfl (lv_at hl 5 rfl) ?_
          refine lv_imul hx hb d_Model_bring_69 ?_
          refine sy_ti (y := nI (60 * fr)) (pk_mul 60 fr) ?_
          refine lv_iload hx hb d_Model_bring_70 (lv_at hl 1 rfl) ?_
          refine lv_iadd hx hb d_Model_bring_72 ?_
          refine sy_ti (y := nI ((60 * fr) + k)) (nI_add (60 * fr) k) ?_
          refine lv_istore (lv' := [(6, .int (nI ((60 * fr) + k))), (5, .int (nI ((60 * to) + k))), (4, .int (nI k)), (3, .int (bI g)), (0, .ref ob), (1, .int (nI to)), (2, .int (nI fr))]) hx hb d_Model_bring_73 hl (by decide) rfl (fun ls hl => ?_)
          refine sy_cut (σ := Bool) (nL := 7) (pc2 := 124) (fun b124 => [(6, .int (nI ((60 * fr) + k))), (5, .int (nI ((60 * to) + k))), (4, .int (nI k)), (0, .ref ob), (1, .int (nI to)), (2, .int (nI fr))]) (fun b124 => [.int (bI b124)]) (fun b124 => b124 = (g || (((jb_h mZ to fr k) (60 * fr + k) && !(jb_h mZ to fr k) (60 * to + k)) || ((jb_c mZ to fr k) (60 * fr + k) && !(jb_c mZ to fr k) (60 * to + k))))) ?_ ?_
          · intro b124 ls hI124 hl
            have hl : lv_has ls 7 [(6, .int (nI ((60 * fr) + k))), (5, .int (nI ((60 * to) + k))), (4, .int (nI k)), (0, .ref ob), (1, .int (nI to)), (2, .int (nI fr))] := hl
            have e124 := hI124
            refine lv_istore_n (lv' := [(3, .int (bI b124)), (6, .int (nI ((60 * fr) + k))), (5, .int (nI ((60 * to) + k))), (4, .int (nI k)), (0, .ref ob), (1, .int (nI to)), (2, .int (nI fr))]) hx hb d_Model_bring_124 rfl hl (by decide) rfl (fun ls hl => ?_)
            refine lv_aload_n hx hb d_Model_bring_125 rfl (lv_at hl 4 rfl) ?_
            refine va_get (D := G.1) (ci := 7) (v := .ref (ad 10)) (C := R_Model) (T := F_Model) (N := 23) hx hb ht i_Model hown hK.1 hP 0 rfl rfl 15 (by decide) (ht _ m_520) (fun _ h9 => h9) rfl d_Model_bring_126 ?_
            refine lv_iload hx hb d_Model_bring_129 (lv_at hl 2 rfl) ?_
            refine sy_cut (σ := Bool) (nL := 7) (pc2 := 156) (fun b156 => [(3, .int (bI b124)), (6, .int (nI ((60 * fr) + k))), (5, .int (nI ((60 * to) + k))), (4, .int (nI k)), (0, .ref ob), (1, .int (nI to)), (2, .int (nI fr))]) (fun b156 => [.int (bI b156), .int (nI ((60 * to) + k)), .ref (ad 10)]) (fun b156 => b156 = ((jb_h mZ to fr k) (60 * to + k) || (jb_h mZ to fr k) (60 * fr + k))) ?_ ?_
            · intro b156 ls hI156 hl
              have hl : lv_has ls 7 [(3, .int (bI b124)), (6, .int (nI ((60 * fr) + k))), (5, .int (nI ((60 * to) + k))), (4, .int (nI k)), (0, .ref ob), (1, .int (nI to)), (2, .int (nI fr))] := hl
              have e156 := hI156
              refine sy_zast hx hb hK.1 hP hD hS 11 2 rfl rfl (k := (60 * to) + k) (b := b156) (by omega) (by decide) d_Model_bring_156 (fun H locs hP hD hS => ?_)
              have hP : va_P G.1 classes (mw G.2 ob ad sc mI (va_up mL 13 (jb_b mL to fr)) (va_up (va_up mZ 10 (va_up (jb_h mZ to fr k) ((60 * to) + k) b156)) 11 (jb_c mZ to fr k))) H := hP
              have hD : va_D A (mw G.2 ob ad sc mI (va_up mL 13 (jb_b mL to fr)) (va_up (va_up mZ 10 (va_up (jb_h mZ to fr k) ((60 * to) + k) b156)) 11 (jb_c mZ to fr k))) := hD
              refine lv_aload_n hx hb d_Model_bring_157 rfl (lv_at hl 4 rfl) ?_
              refine va_get (D := G.1) (ci := 7) (v := .ref (ad 11)) (C := R_Model) (T := F_Model) (N := 23) hx hb ht i_Model hown hK.1 hP 0 rfl rfl 16 (by decide) (ht _ m_521) (fun _ h9 => h9) rfl d_Model_bring_158 ?_
              refine lv_iload hx hb d_Model_bring_161 (lv_at hl 2 rfl) ?_
              refine sy_cut (σ := Bool) (nL := 7) (pc2 := 188) (fun b188 => [(3, .int (bI b124)), (6, .int (nI ((60 * fr) + k))), (5, .int (nI ((60 * to) + k))), (4, .int (nI k)), (0, .ref ob), (1, .int (nI to)), (2, .int (nI fr))]) (fun b188 => [.int (bI b188), .int (nI ((60 * to) + k)), .ref (ad 11)]) (fun b188 => b188 = ((jb_c mZ to fr k) (60 * to + k) || (jb_c mZ to fr k) (60 * fr + k))) ?_ ?_
              · intro b188 ls hI188 hl
                have hl : lv_has ls 7 [(3, .int (bI b124)), (6, .int (nI ((60 * fr) + k))), (5, .int (nI ((60 * to) + k))), (4, .int (nI k)), (0, .ref ob), (1, .int (nI to)), (2, .int (nI fr))] := hl
                have e188 := hI188
                refine sy_zast hx hb hK.1 hP hD hS 12 2 rfl rfl (k := (60 * to) + k) (b := b188) (by omega) (by decide) d_Model_bring_188 (fun H locs hP hD hS => ?_)
                rw [show (va_up (va_up mZ 10 (va_up (jb_h mZ to fr k) ((60 * to) + k) b156)) 11 (jb_c mZ to fr k)) 11 = jb_c mZ to fr k from rfl, mw_s11, bx_uu] at hP hD
                refine lv_iinc (v := nI (k + 1)) (lv' := [(4, .int (nI (k + 1))), (3, .int (bI b124)), (6, .int (nI ((60 * fr) + k))), (5, .int (nI ((60 * to) + k))), (0, .ref ob), (1, .int (nI to)), (2, .int (nI fr))]) hx hb d_Model_bring_189 hl (k := 3) rfl (nI_add k 1) (by decide) rfl (fun ls hl => ?_)
                refine lv_goto (tgt := 50) hx hb d_Model_bring_192 (by decide) ?_
                refine ih50 (k + 1, b124) _ _ ls (show 60 - (k + 1) < 60 - k by omega) ?_ (lv_sub hl [0, 1, 4, 5, 6] rfl)
                exact ⟨by omega, by rw [jb_g, ← hg]; exact e124, by rw [jb_h, jb_c, ← e156, ← e188]; exact hP, by rw [jb_h, jb_c, ← e156, ← e188]; exact hD, hS⟩
              · intro cut188
                refine lv_aload_n hx hb d_Model_bring_163 rfl (lv_at hl 4 rfl) ?_
                refine va_get (D := G.1) (ci := 7) (v := .ref (ad 11)) (C := R_Model) (T := F_Model) (N := 23) hx hb ht i_Model hown hK.1 hP 0 rfl rfl 16 (by decide) (ht _ m_521) (fun _ h9 => h9) rfl d_Model_bring_164 ?_
                refine lv_iload hx hb d_Model_bring_167 (lv_at hl 2 rfl) ?_
                refine sy_zald hx hb hK.1 hP 12 2 rfl rfl (k := (60 * to) + k) (by omega) (by decide) d_Model_bring_169 ?_
                refine sy_ti (y := bI (jb_c mZ to fr k ((60 * to) + k))) rfl ?_
                refine lv_if_ne (tgt := 183) hx hb d_Model_bring_170 (by decide) (fun c_8 => ?_) (fun c_8 => ?_)
                · have c_8 : (jb_c mZ to fr k ((60 * to) + k)) = true := bI_t c_8
                  refine lv_iconst (v := 1) hx hb d_Model_bring_183 (by decide) ?_
                  refine lv_goto (tgt := 188) hx hb d_Model_bring_184 (by decide) ?_
                  refine cut188 true ls ?_ (lv_sub hl [0, 1, 2, 3, 4, 5, 6] rfl)
                  simp [c_1, c_1n, c_8]
                · have c_8 : (jb_c mZ to fr k ((60 * to) + k)) = false := bI_f c_8
                  refine lv_aload_n hx hb d_Model_bring_173 rfl (lv_at hl 4 rfl) ?_
                  refine va_get (D := G.1) (ci := 7) (v := .ref (ad 11)) (C := R_Model) (T := F_Model) (N := 23) hx hb ht i_Model hown hK.1 hP 0 rfl rfl 16 (by decide) (ht _ m_521) (fun _ h9 => h9) rfl d_Model_bring_174 ?_
                  refine lv_iload hx hb d_Model_bring_177 (lv_at hl 1 rfl) ?_
                  refine sy_zald hx hb hK.1 hP 12 2 rfl rfl (k := (60 * fr) + k) (by omega) (by decide) d_Model_bring_179 ?_
                  refine sy_ti (y := bI (jb_c mZ to fr k ((60 * fr) + k))) rfl ?_
                  refine lv_if_eq (tgt := 187) hx hb d_Model_bring_180 (by decide) (fun c_9 => ?_) (fun c_9 => ?_)
                  · have c_9 : (jb_c mZ to fr k ((60 * fr) + k)) = false := bI_f c_9
                    refine lv_iconst (v := 0) hx hb d_Model_bring_187 (by decide) ?_
                    refine cut188 false ls ?_ (lv_sub hl [0, 1, 2, 3, 4, 5, 6] rfl)
                    simp [c_1, c_1n, c_8, c_9]
                  · have c_9 : (jb_c mZ to fr k ((60 * fr) + k)) = true := bI_t c_9
                    refine lv_iconst (v := 1) hx hb d_Model_bring_183 (by decide) ?_
                    refine lv_goto (tgt := 188) hx hb d_Model_bring_184 (by decide) ?_
                    refine cut188 true ls ?_ (lv_sub hl [0, 1, 2, 3, 4, 5, 6] rfl)
                    simp [c_1, c_1n, c_8, c_9]
            · intro cut156
              refine lv_aload_n hx hb d_Model_bring_131 rfl (lv_at hl 4 rfl) ?_
              refine va_get (D := G.1) (ci := 7) (v := .ref (ad 10)) (C := R_Model) (T := F_Model) (N := 23) hx hb ht i_Model hown hK.1 hP 0 rfl rfl 15 (by decide) (ht _ m_520) (fun _ h9 => h9) rfl d_Model_bring_132 ?_
              refine lv_iload hx hb d_Model_bring_135 (lv_at hl 2 rfl) ?_
              refine sy_zald hx hb hK.1 hP 11 2 rfl rfl (k := (60 * to) + k) (by omega) (by decide) d_Model_bring_137 ?_
              refine sy_ti (y := bI (jb_h mZ to fr k ((60 * to) + k))) rfl ?_
              refine lv_if_ne (tgt := 151) hx hb d_Model_bring_138 (by decide) (fun c_10 => ?_) (fun c_10 => ?_)
              · have c_10 : (jb_h mZ to fr k ((60 * to) + k)) = true := bI_t c_10
                refine lv_iconst (v := 1) hx hb d_Model_bring_151 (by decide) ?_
                refine lv_goto (tgt := 156) hx hb d_Model_bring_152 (by decide) ?_
                refine cut156 true ls ?_ (lv_sub hl [0, 1, 2, 3, 4, 5, 6] rfl)
                simp [c_1, c_1n, c_10]
              · have c_10 : (jb_h mZ to fr k ((60 * to) + k)) = false := bI_f c_10
                refine lv_aload_n hx hb d_Model_bring_141 rfl (lv_at hl 4 rfl) ?_
                refine va_get (D := G.1) (ci := 7) (v := .ref (ad 10)) (C := R_Model) (T := F_Model) (N := 23) hx hb ht i_Model hown hK.1 hP 0 rfl rfl 15 (by decide) (ht _ m_520) (fun _ h9 => h9) rfl d_Model_bring_142 ?_
                refine lv_iload hx hb d_Model_bring_145 (lv_at hl 1 rfl) ?_
                refine sy_zald hx hb hK.1 hP 11 2 rfl rfl (k := (60 * fr) + k) (by omega) (by decide) d_Model_bring_147 ?_
                refine sy_ti (y := bI (jb_h mZ to fr k ((60 * fr) + k))) rfl ?_
                refine lv_if_eq (tgt := 155) hx hb d_Model_bring_148 (by decide) (fun c_11 => ?_) (fun c_11 => ?_)
                · have c_11 : (jb_h mZ to fr k ((60 * fr) + k)) = false := bI_f c_11
                  refine lv_iconst (v := 0) hx hb d_Model_bring_155 (by decide) ?_
                  refine cut156 false ls ?_ (lv_sub hl [0, 1, 2, 3, 4, 5, 6] rfl)
                  simp [c_1, c_1n, c_10, c_11]
                · have c_11 : (jb_h mZ to fr k ((60 * fr) + k)) = true := bI_t c_11
                  refine lv_iconst (v := 1) hx hb d_Model_bring_151 (by decide) ?_
                  refine lv_goto (tgt := 156) hx hb d_Model_bring_152 (by decide) ?_
                  refine cut156 true ls ?_ (lv_sub hl [0, 1, 2, 3, 4, 5, 6] rfl)
                  simp [c_1, c_1n, c_10, c_11]
          · intro cut124
            refine lv_iload_n hx hb d_Model_bring_75 rfl (lv_at hl 3 rfl) ?_
            refine lv_if_ne (tgt := 119) hx hb d_Model_bring_76 (by decide) (fun c_12 => ?_) (fun c_12 => ?_)
            · have c_12 : g = true := bI_t c_12
              refine lv_iconst (v := 1) hx hb d_Model_bring_119 (by decide) ?_
              refine lv_goto (tgt := 124) hx hb d_Model_bring_120 (by decide) ?_
              refine cut124 true ls ?_ (lv_sub hl [0, 1, 2, 4, 5, 6] rfl)
              simp [c_1, c_1n, c_12]
            · have c_12 : g = false := bI_f c_12
              refine lv_aload_n hx hb d_Model_bring_79 rfl (lv_at hl 4 rfl) ?_
              refine va_get (D := G.1) (ci := 7) (v := .ref (ad 10)) (C := R_Model) (T := F_Model) (N := 23) hx hb ht i_Model hown hK.1 hP 0 rfl rfl 15 (by decide) (ht _ m_520) (fun _ h9 => h9) rfl d_Model_bring_80 ?_
              refine lv_iload hx hb d_Model_bring_83 (lv_at hl 0 rfl) ?_
              refine sy_zald hx hb hK.1 hP 11 2 rfl rfl (k := (60 * fr) + k) (by omega) (by decide) d_Model_bring_85 ?_
              refine sy_ti (y := bI (jb_h mZ to fr k ((60 * fr) + k))) rfl ?_
              refine lv_if_eq (tgt := 99) hx hb d_Model_bring_86 (by decide) (fun c_13 => ?_) (fun c_13 => ?_)
              · have c_13 : (jb_h mZ to fr k ((60 * fr) + k)) = false := bI_f c_13
                refine lv_aload_n hx hb d_Model_bring_99 rfl (lv_at hl 4 rfl) ?_
                refine va_get (D := G.1) (ci := 7) (v := .ref (ad 11)) (C := R_Model) (T := F_Model) (N := 23) hx hb ht i_Model hown hK.1 hP 0 rfl rfl 16 (by decide) (ht _ m_521) (fun _ h9 => h9) rfl d_Model_bring_100 ?_
                refine lv_iload hx hb d_Model_bring_103 (lv_at hl 0 rfl) ?_
                refine sy_zald hx hb hK.1 hP 12 2 rfl rfl (k := (60 * fr) + k) (by omega) (by decide) d_Model_bring_105 ?_
                refine sy_ti (y := bI (jb_c mZ to fr k ((60 * fr) + k))) rfl ?_
                refine lv_if_eq (tgt := 123) hx hb d_Model_bring_106 (by decide) (fun c_14 => ?_) (fun c_14 => ?_)
                · have c_14 : (jb_c mZ to fr k ((60 * fr) + k)) = false := bI_f c_14
                  refine lv_iconst (v := 0) hx hb d_Model_bring_123 (by decide) ?_
                  refine cut124 false ls ?_ (lv_sub hl [0, 1, 2, 4, 5, 6] rfl)
                  simp [c_1, c_1n, c_12, c_13, c_14]
                · have c_14 : (jb_c mZ to fr k ((60 * fr) + k)) = true := bI_t c_14
                  refine lv_aload_n hx hb d_Model_bring_109 rfl (lv_at hl 4 rfl) ?_
                  refine va_get (D := G.1) (ci := 7) (v := .ref (ad 11)) (C := R_Model) (T := F_Model) (N := 23) hx hb ht i_Model hown hK.1 hP 0 rfl rfl 16 (by decide) (ht _ m_521) (fun _ h9 => h9) rfl d_Model_bring_110 ?_
                  refine lv_iload hx hb d_Model_bring_113 (lv_at hl 1 rfl) ?_
                  refine sy_zald hx hb hK.1 hP 12 2 rfl rfl (k := (60 * to) + k) (by omega) (by decide) d_Model_bring_115 ?_
                  refine sy_ti (y := bI (jb_c mZ to fr k ((60 * to) + k))) rfl ?_
                  refine lv_if_ne (tgt := 123) hx hb d_Model_bring_116 (by decide) (fun c_15 => ?_) (fun c_15 => ?_)
                  · have c_15 : (jb_c mZ to fr k ((60 * to) + k)) = true := bI_t c_15
                    refine lv_iconst (v := 0) hx hb d_Model_bring_123 (by decide) ?_
                    refine cut124 false ls ?_ (lv_sub hl [0, 1, 2, 4, 5, 6] rfl)
                    simp [c_1, c_1n, c_12, c_13, c_14, c_15]
                  · have c_15 : (jb_c mZ to fr k ((60 * to) + k)) = false := bI_f c_15
                    refine lv_iconst (v := 1) hx hb d_Model_bring_119 (by decide) ?_
                    refine lv_goto (tgt := 124) hx hb d_Model_bring_120 (by decide) ?_
                    refine cut124 true ls ?_ (lv_sub hl [0, 1, 2, 4, 5, 6] rfl)
                    simp [c_1, c_1n, c_12, c_13, c_14, c_15]
              · have c_13 : (jb_h mZ to fr k ((60 * fr) + k)) = true := bI_t c_13
                refine lv_aload_n hx hb d_Model_bring_89 rfl (lv_at hl 4 rfl) ?_
                refine va_get (D := G.1) (ci := 7) (v := .ref (ad 10)) (C := R_Model) (T := F_Model) (N := 23) hx hb ht i_Model hown hK.1 hP 0 rfl rfl 15 (by decide) (ht _ m_520) (fun _ h9 => h9) rfl d_Model_bring_90 ?_
                refine lv_iload hx hb d_Model_bring_93 (lv_at hl 1 rfl) ?_
                refine sy_zald hx hb hK.1 hP 11 2 rfl rfl (k := (60 * to) + k) (by omega) (by decide) d_Model_bring_95 ?_
                refine sy_ti (y := bI (jb_h mZ to fr k ((60 * to) + k))) rfl ?_
                refine lv_if_eq (tgt := 119) hx hb d_Model_bring_96 (by decide) (fun c_16 => ?_) (fun c_16 => ?_)
                · have c_16 : (jb_h mZ to fr k ((60 * to) + k)) = false := bI_f c_16
                  refine lv_iconst (v := 1) hx hb d_Model_bring_119 (by decide) ?_
                  refine lv_goto (tgt := 124) hx hb d_Model_bring_120 (by decide) ?_
                  refine cut124 true ls ?_ (lv_sub hl [0, 1, 2, 4, 5, 6] rfl)
                  simp [c_1, c_1n, c_12, c_13, c_16]
                · have c_16 : (jb_h mZ to fr k ((60 * to) + k)) = true := bI_t c_16
                  refine lv_aload_n hx hb d_Model_bring_99 rfl (lv_at hl 4 rfl) ?_
                  refine va_get (D := G.1) (ci := 7) (v := .ref (ad 11)) (C := R_Model) (T := F_Model) (N := 23) hx hb ht i_Model hown hK.1 hP 0 rfl rfl 16 (by decide) (ht _ m_521) (fun _ h9 => h9) rfl d_Model_bring_100 ?_
                  refine lv_iload hx hb d_Model_bring_103 (lv_at hl 0 rfl) ?_
                  refine sy_zald hx hb hK.1 hP 12 2 rfl rfl (k := (60 * fr) + k) (by omega) (by decide) d_Model_bring_105 ?_
                  refine sy_ti (y := bI (jb_c mZ to fr k ((60 * fr) + k))) rfl ?_
                  refine lv_if_eq (tgt := 123) hx hb d_Model_bring_106 (by decide) (fun c_17 => ?_) (fun c_17 => ?_)
                  · have c_17 : (jb_c mZ to fr k ((60 * fr) + k)) = false := bI_f c_17
                    refine lv_iconst (v := 0) hx hb d_Model_bring_123 (by decide) ?_
                    refine cut124 false ls ?_ (lv_sub hl [0, 1, 2, 4, 5, 6] rfl)
                    simp [c_1, c_1n, c_12, c_13, c_16, c_17]
                  · have c_17 : (jb_c mZ to fr k ((60 * fr) + k)) = true := bI_t c_17
                    refine lv_aload_n hx hb d_Model_bring_109 rfl (lv_at hl 4 rfl) ?_
                    refine va_get (D := G.1) (ci := 7) (v := .ref (ad 11)) (C := R_Model) (T := F_Model) (N := 23) hx hb ht i_Model hown hK.1 hP 0 rfl rfl 16 (by decide) (ht _ m_521) (fun _ h9 => h9) rfl d_Model_bring_110 ?_
                    refine lv_iload hx hb d_Model_bring_113 (lv_at hl 1 rfl) ?_
                    refine sy_zald hx hb hK.1 hP 12 2 rfl rfl (k := (60 * to) + k) (by omega) (by decide) d_Model_bring_115 ?_
                    refine sy_ti (y := bI (jb_c mZ to fr k ((60 * to) + k))) rfl ?_
                    refine lv_if_ne (tgt := 123) hx hb d_Model_bring_116 (by decide) (fun c_18 => ?_) (fun c_18 => ?_)
                    · have c_18 : (jb_c mZ to fr k ((60 * to) + k)) = true := bI_t c_18
                      refine lv_iconst (v := 0) hx hb d_Model_bring_123 (by decide) ?_
                      refine cut124 false ls ?_ (lv_sub hl [0, 1, 2, 4, 5, 6] rfl)
                      simp [c_1, c_1n, c_12, c_13, c_16, c_17, c_18]
                    · have c_18 : (jb_c mZ to fr k ((60 * to) + k)) = false := bI_f c_18
                      refine lv_iconst (v := 1) hx hb d_Model_bring_119 (by decide) ?_
                      refine lv_goto (tgt := 124) hx hb d_Model_bring_120 (by decide) ?_
                      refine cut124 true ls ?_ (lv_sub hl [0, 1, 2, 4, 5, 6] rfl)
                      simp [c_1, c_1n, c_12, c_13, c_16, c_17, c_18]
      · exact ⟨Nat.zero_le _, e21, by rw [jb_b, ← e46]; exact hP, by rw [jb_b, ← e46]; exact hD, hS⟩
    · intro cut46
      refine lv_iload_n hx hb d_Model_bring_27 rfl (lv_at hl 0 rfl) ?_
      refine lv_if_eq (tgt := 40) hx hb d_Model_bring_28 (by decide) (fun c_19 => ?_) (fun c_19 => ?_)
      · have c_19 : b21 = false := bI_f c_19
        refine lv_aload_n hx hb d_Model_bring_40 rfl (lv_at hl 1 rfl) ?_
        refine va_get (D := G.1) (ci := 7) (v := .ref (ad 13)) (C := R_Model) (T := F_Model) (N := 23) hx hb ht i_Model hown hK.1 hP 0 rfl rfl 18 (by decide) (ht _ m_523) (fun _ h9 => h9) rfl d_Model_bring_41 ?_
        refine lv_iload_n hx hb d_Model_bring_44 rfl (lv_at hl 2 rfl) ?_
        refine sy_lald hx hb hK.1 hP 14 1 rfl rfl (k := to) (by omega) (by decide) d_Model_bring_45 ?_
        refine cut46 (mL 13 to) ls ?_ (lv_sub hl [0, 1, 2, 3] rfl)
        (have c9 := c_19; rw [e21] at c9; simp only [decide_eq_true_eq, decide_eq_false_iff_not] at c9; simp [c9])
      · have c_19 : b21 = true := bI_t c_19
        refine lv_aload_n hx hb d_Model_bring_31 rfl (lv_at hl 1 rfl) ?_
        refine va_get (D := G.1) (ci := 7) (v := .ref (ad 13)) (C := R_Model) (T := F_Model) (N := 23) hx hb ht i_Model hown hK.1 hP 0 rfl rfl 18 (by decide) (ht _ m_523) (fun _ h9 => h9) rfl d_Model_bring_32 ?_
        refine lv_iload_n hx hb d_Model_bring_35 rfl (lv_at hl 3 rfl) ?_
        refine sy_lald hx hb hK.1 hP 14 1 rfl rfl (k := fr) (by omega) (by decide) d_Model_bring_36 ?_
        refine lv_goto (tgt := 46) hx hb d_Model_bring_37 (by decide) ?_
        refine cut46 (mL 13 fr) ls ?_ (lv_sub hl [0, 1, 2, 3] rfl)
        (have c9 := c_19; rw [e21] at c9; simp only [decide_eq_true_eq, decide_eq_false_iff_not] at c9; simp [c9])
  · intro cut21
    refine lv_aload_n hx hb d_Model_bring_0 rfl (lv_at hl 0 rfl) ?_
    refine va_get (D := G.1) (ci := 7) (v := .ref (ad 13)) (C := R_Model) (T := F_Model) (N := 23) hx hb ht i_Model hown hK.1 hP 0 rfl rfl 18 (by decide) (ht _ m_523) (fun _ h9 => h9) rfl d_Model_bring_1 ?_
    refine lv_iload_n hx hb d_Model_bring_4 rfl (lv_at hl 2 rfl) ?_
    refine sy_lald hx hb hK.1 hP 14 1 rfl rfl (k := fr) (by omega) (by decide) d_Model_bring_5 ?_
    refine lv_aload_n hx hb d_Model_bring_6 rfl (lv_at hl 0 rfl) ?_
    refine va_get (D := G.1) (ci := 7) (v := .ref (ad 13)) (C := R_Model) (T := F_Model) (N := 23) hx hb ht i_Model hown hK.1 hP 0 rfl rfl 18 (by decide) (ht _ m_523) (fun _ h9 => h9) rfl d_Model_bring_7 ?_
    refine lv_iload_n hx hb d_Model_bring_10 rfl (lv_at hl 1 rfl) ?_
    refine sy_lald hx hb hK.1 hP 14 1 rfl rfl (k := to) (by omega) (by decide) d_Model_bring_11 ?_
    refine sy_lc_le (tgt := 20) hx hb d_Model_bring_12 d_Model_bring_13 (by decide) (fun c_20 => ?_) (fun c_20 => ?_)
    · have c_20n := sy_c64 c_20
      refine lv_iconst (v := 0) hx hb d_Model_bring_20 (by decide) ?_
      refine cut21 false ls ?_ (lv_sub hl [0, 1, 2] rfl)
      simp [c_20, c_20n]
    · have c_20n := sy_d64 c_20
      refine lv_iconst (v := 1) hx hb d_Model_bring_16 (by decide) ?_
      refine lv_goto (tgt := 21) hx hb d_Model_bring_17 (by decide) ?_
      refine cut21 true ls ?_ (lv_sub hl [0, 1, 2] rfl)
      simp [c_20, c_20n]
set_option maxHeartbeats 4000000 in
set_option maxRecDepth 100000 in
theorem c_Model_joinTo (l : Launch) (G : sy_G) (ob : Nat) (ad : Nat → Nat) (sc : Nat → Nat) (mI : Nat → Nat → Int32) (mL : Nat → Nat → Int64) (mZ : Nat → Nat → Bool) (z : Nat) (y : Nat) (hz : z < 6) (hy : y < 12) : Met l y_Model_joinTo (sy_w y_Model_joinTo b_Model_joinTo 3 (some .boolean)) { frames := 1, cells := 0, slots := 0, locals := 26 } (va_Pc [.ref ob, .int (nI z), .int (nI y)] (sy_KP G (fun H => va_P G.1 classes (mw G.2 ob ad sc mI mL mZ) H ∧ va_D (fun _ => True) (mw G.2 ob ad sc mI mL mZ)))) (va_Qi (S := ms_S) (fun r u => r = bI (mo_joinTo sc mI mL mZ z y).1 ∧ u = (mo_joinTo sc mI mL mZ z y).2) (fun u t => va_P G.1 classes (mw G.2 ob ad u.1 u.2.1 u.2.2.1 u.2.2.2) t.heap) (sy_A (mw G.2 ob ad sc mI mL mZ))) 0 0 (sy_A (mw G.2 ob ad sc mI mL mZ)) := by
  refine Met.ofW (cc := b_Model_joinTo) (maxL := 3) (ret := (some .boolean)) (by decide) rfl ?_
  intro p e s m args below meth c s₁ B hml hv
  obtain ⟨rfl, ⟨hP, hD0⟩, hK⟩ := hv
  have hx := B.exec
  have hb := B.bytes
  have hr := B.returns
  have hts := atoms_spec (ws := sy_w y_Model_joinTo b_Model_joinTo 3 (some .boolean)) B.pre
  have ht : ∀ wd ∈ sy_T, wd.before ([.ref ob, .int (nI z), .int (nI y)] : List Value).toArray s = true := fun wd h => hts wd (List.mem_cons_of_mem _ h)
  have hown : s.vm.findClass R_Model = some m.cls := findClass_of_methodNamed B.named
  have hlocks := B.notSynchronized
  have hD := sy_self hD0
  generalize hAe : sy_A (mw G.2 ob ad sc mI mL mZ) = A at hD ⊢
  have hS : va_S A s.heap s.heap [] := va_S.rf
  have hl := lv_entry ([.ref ob, .int (nI z), .int (nI y)]) (n := 3) (Nat.le_of_ble_eq_true rfl)
  rw [lg_entry_eq]
  generalize (lg_sl ([.ref ob, .int (nI z), .int (nI y)]) ++ List.replicate (3 - (lg_sl ([.ref ob, .int (nI z), .int (nI y)])).length) Slot.unset).toArray = ls at hl ⊢
  have hl : lv_has ls 3 [(0, .ref ob), (1, .int (nI z)), (2, .int (nI y))] := hl
  refine lv_aload_n hx hb d_Model_joinTo_0 rfl (lv_at hl 0 rfl) ?_
  refine lv_aload_n hx hb d_Model_joinTo_1 rfl (lv_at hl 0 rfl) ?_
  refine va_get (D := G.1) (ci := 7) (v := .ref (ad 14)) (C := R_Model) (T := F_Model) (N := 23) hx hb ht i_Model hown hK.1 hP 0 rfl rfl 19 (by decide) (ht _ m_524) (fun _ h9 => h9) rfl d_Model_joinTo_2 ?_
  refine lv_iload_n hx hb d_Model_joinTo_5 rfl (lv_at hl 1 rfl) ?_
  refine sy_iald hx hb hK.1 hP 15 0 rfl rfl (k := z) (by omega) (by decide) d_Model_joinTo_6 ?_
  refine lv_if_lt (tgt := 17) hx hb d_Model_joinTo_7 (by decide) (fun c_1 => ?_) (fun c_1 => ?_)
  · have c_1n := sy_a32 c_1
    refine lv_iload_n hx hb d_Model_joinTo_17 rfl (lv_at hl 1 rfl) ?_
    refine lv_iload_n hx hb d_Model_joinTo_18 rfl (lv_at hl 2 rfl) ?_
    refine va_calli (sy_runV (As := [.int (nI z), .int (nI y)]) (rest := []) (b := ob) ⟨hx, hb, hml, hown, ht⟩ cl_Model_92 (c_Model_bring l G ob ad sc mI mL mZ z y (by omega) (by omega)) hK ⟨hP, sy_any hD⟩ (va_recv hK.1 hP (ci := 7) (q0 := 0) rfl rfl) rfl nm_Model_bring rfl rfl ⟨Nat.le_of_ble_eq_true rfl, Nat.le_of_ble_eq_true rfl⟩ hl.1 (Nat.le_of_ble_eq_true rfl) d_Model_joinTo_19 ⟨Nat.zero_le _, Nat.zero_le _⟩) hS (fun q _ h => sy_in hD h) (fun q h => sy_in hD h) (fun r_2 u_3 t9 H locs ht9 hvm9 hw9 hB9 hz9 hk9 hS => ?_)
    obtain ⟨hr_2, hu_3⟩ := hw9
    subst hr_2
    subst hu_3
    rw [ht9] at hB9
    have hP : va_P G.1 classes (mw G.2 ob ad (mo_bring sc mI mL mZ z y).2.1 (mo_bring sc mI mL mZ z y).2.2.1 (mo_bring sc mI mL mZ z y).2.2.2.1 (mo_bring sc mI mL mZ z y).2.2.2.2) H := hB9
    have hD : va_D A (mw G.2 ob ad (mo_bring sc mI mL mZ z y).2.1 (mo_bring sc mI mL mZ z y).2.2.1 (mo_bring sc mI mL mZ z y).2.2.2.1 (mo_bring sc mI mL mZ z y).2.2.2.2) := sy_Da hD rfl
    exact W.zret (v := bI ((mo_bring sc mI mL mZ z y).1)) hx hb hr (bI_n _) (fun t ht hW => ⟨⟨bI ((mo_bring sc mI mL mZ z y).1), ((mo_bring sc mI mL mZ z y).2.1, (mo_bring sc mI mL mZ z y).2.2.1, (mo_bring sc mI mL mZ z y).2.2.2.1, (mo_bring sc mI mL mZ z y).2.2.2.2), rfl, by constructor <;> simp [mo_joinTo, c_1, c_1n], by show va_P _ _ _ t.heap; rw [ht]; exact hP⟩, hS.F ht⟩) hS.2.2 d_Model_joinTo_22
  · have c_1n := sy_b32 c_1
    refine lv_bipush (v := 6) hx hb d_Model_joinTo_10 (by decide) ?_
    refine lv_iload_n hx hb d_Model_joinTo_12 rfl (lv_at hl 1 rfl) ?_
    refine lv_iadd hx hb d_Model_joinTo_13 ?_
    refine sy_ti (y := nI (6 + z)) (nI_add 6 z) ?_
    refine lv_goto (tgt := 18) hx hb d_Model_joinTo_14 (by decide) ?_
    refine lv_iload_n hx hb d_Model_joinTo_18 rfl (lv_at hl 2 rfl) ?_
    refine va_calli (sy_runV (As := [.int (nI (6 + z)), .int (nI y)]) (rest := []) (b := ob) ⟨hx, hb, hml, hown, ht⟩ cl_Model_92 (c_Model_bring l G ob ad sc mI mL mZ (6 + z) y (by omega) (by omega)) hK ⟨hP, sy_any hD⟩ (va_recv hK.1 hP (ci := 7) (q0 := 0) rfl rfl) rfl nm_Model_bring rfl rfl ⟨Nat.le_of_ble_eq_true rfl, Nat.le_of_ble_eq_true rfl⟩ hl.1 (Nat.le_of_ble_eq_true rfl) d_Model_joinTo_19 ⟨Nat.zero_le _, Nat.zero_le _⟩) hS (fun q _ h => sy_in hD h) (fun q h => sy_in hD h) (fun r_4 u_5 t9 H locs ht9 hvm9 hw9 hB9 hz9 hk9 hS => ?_)
    obtain ⟨hr_4, hu_5⟩ := hw9
    subst hr_4
    subst hu_5
    rw [ht9] at hB9
    have hP : va_P G.1 classes (mw G.2 ob ad (mo_bring sc mI mL mZ (6 + z) y).2.1 (mo_bring sc mI mL mZ (6 + z) y).2.2.1 (mo_bring sc mI mL mZ (6 + z) y).2.2.2.1 (mo_bring sc mI mL mZ (6 + z) y).2.2.2.2) H := hB9
    have hD : va_D A (mw G.2 ob ad (mo_bring sc mI mL mZ (6 + z) y).2.1 (mo_bring sc mI mL mZ (6 + z) y).2.2.1 (mo_bring sc mI mL mZ (6 + z) y).2.2.2.1 (mo_bring sc mI mL mZ (6 + z) y).2.2.2.2) := sy_Da hD rfl
    exact W.zret (v := bI ((mo_bring sc mI mL mZ (6 + z) y).1)) hx hb hr (bI_n _) (fun t ht hW => ⟨⟨bI ((mo_bring sc mI mL mZ (6 + z) y).1), ((mo_bring sc mI mL mZ (6 + z) y).2.1, (mo_bring sc mI mL mZ (6 + z) y).2.2.1, (mo_bring sc mI mL mZ (6 + z) y).2.2.2.1, (mo_bring sc mI mL mZ (6 + z) y).2.2.2.2), rfl, by constructor <;> simp [mo_joinTo, c_1, c_1n], by show va_P _ _ _ t.heap; rw [ht]; exact hP⟩, hS.F ht⟩) hS.2.2 d_Model_joinTo_22
set_option maxHeartbeats 4000000 in
set_option maxRecDepth 100000 in
theorem c_Model_join (l : Launch) (G : sy_G) (ob : Nat) (ad : Nat → Nat) (sc : Nat → Nat) (mI : Nat → Nat → Int32) (mL : Nat → Nat → Int64) (mZ : Nat → Nat → Bool) (d : Int32) (dv : Int32) (hs : sc 3 ≤ 6) (hn : sc 1 ≤ 60) : Met l y_Model_join (sy_w y_Model_join b_Model_join 4 (some .int)) { frames := 4, cells := 0, slots := 0, locals := 92 } (va_Pc [.ref ob, .int d, .int dv] (sy_KP G (fun H => va_P G.1 classes (mw G.2 ob ad sc mI mL mZ) H ∧ va_D (fun _ => True) (mw G.2 ob ad sc mI mL mZ)))) (va_Qi (S := ms_S) (fun r u => r = (mo_join sc mI mL mZ d dv).1 ∧ u = (mo_join sc mI mL mZ d dv).2) (fun u t => va_P G.1 classes (mw G.2 ob ad u.1 u.2.1 u.2.2.1 u.2.2.2) t.heap) (sy_A (mw G.2 ob ad sc mI mL mZ))) 0 0 (sy_A (mw G.2 ob ad sc mI mL mZ)) := by
  refine Met.ofW (cc := b_Model_join) (maxL := 4) (ret := (some .int)) (by decide) rfl ?_
  intro p e s m args below meth c s₁ B hml hv
  obtain ⟨rfl, ⟨hP, hD0⟩, hK⟩ := hv
  have hx := B.exec
  have hb := B.bytes
  have hr := B.returns
  have hts := atoms_spec (ws := sy_w y_Model_join b_Model_join 4 (some .int)) B.pre
  have ht : ∀ wd ∈ sy_T, wd.before ([.ref ob, .int d, .int dv] : List Value).toArray s = true := fun wd h => hts wd (List.mem_cons_of_mem _ h)
  have hown : s.vm.findClass R_Model = some m.cls := findClass_of_methodNamed B.named
  have hlocks := B.notSynchronized
  have hD := sy_self hD0
  generalize hAe : sy_A (mw G.2 ob ad sc mI mL mZ) = A at hD ⊢
  have hS : va_S A s.heap s.heap [] := va_S.rf
  have hl := lv_entry ([.ref ob, .int d, .int dv]) (n := 4) (Nat.le_of_ble_eq_true rfl)
  rw [lg_entry_eq]
  generalize (lg_sl ([.ref ob, .int d, .int dv]) ++ List.replicate (4 - (lg_sl ([.ref ob, .int d, .int dv])).length) Slot.unset).toArray = ls at hl ⊢
  have hl : lv_has ls 4 [(0, .ref ob), (1, .int d), (2, .int dv)] := hl
  refine lv_aload_n hx hb d_Model_join_0 rfl (lv_at hl 0 rfl) ?_
  refine lv_iload_n hx hb d_Model_join_1 rfl (lv_at hl 1 rfl) ?_
  refine vp_callSi (va_Run.run (sy_runV (As := [.int d]) (rest := []) (b := ob) ⟨hx, hb, hml, hown, ht⟩ cl_Model_96 (c_Model_isSet l G ob ad sc mI mL mZ d (by omega)) hK hP (va_recv hK.1 hP (ci := 7) (q0 := 0) rfl rfl) rfl nm_Model_isSet rfl rfl ⟨Nat.le_of_ble_eq_true rfl, Nat.le_of_ble_eq_true rfl⟩ hl.1 (Nat.le_of_ble_eq_true rfl) d_Model_join_2 ⟨Nat.zero_le _, Nat.zero_le _⟩)) (fun r_1 hr_1 => ?_)
  subst hr_1
  refine lv_if_eq (tgt := 16) hx hb d_Model_join_5 (by decide) (fun c_2 => ?_) (fun c_2 => ?_)
  · have c_2 : (mo_ok (sc 3) d) = false := bI_f c_2
    refine lv_iconst (v := (-1)) hx hb d_Model_join_16 (by decide) ?_
    exact W.iret (v := (-1 : Int32)) hx hb hr (fun t ht hW => ⟨⟨(-1 : Int32), (sc, mI, mL, mZ), rfl, by first | (constructor <;> simp [mo_join, c_2]; done) | (constructor <;> (rw [mo_join, if_pos (by simp [c_2]; done), hczd, hczdv]; try rfl)), by show va_P _ _ _ t.heap; rw [ht]; exact hP⟩, hS.F ht⟩) hS.2.2 d_Model_join_17
  · have c_2 : (mo_ok (sc 3) d) = true := bI_t c_2
    obtain ⟨zd, hzd, ezd⟩ := mo_ix (by omega) c_2
    subst ezd
    have hczd : (nI zd).toNatClampNeg = zd := nI_clamp (by omega)
    refine lv_aload_n hx hb d_Model_join_8 rfl (lv_at hl 0 rfl) ?_
    refine lv_iload_n hx hb d_Model_join_9 rfl (lv_at hl 2 rfl) ?_
    refine vp_callSi (va_Run.run (sy_runV (As := [.int dv]) (rest := []) (b := ob) ⟨hx, hb, hml, hown, ht⟩ cl_Model_96 (c_Model_isSet l G ob ad sc mI mL mZ dv (by omega)) hK hP (va_recv hK.1 hP (ci := 7) (q0 := 0) rfl rfl) rfl nm_Model_isSet rfl rfl ⟨Nat.le_of_ble_eq_true rfl, Nat.le_of_ble_eq_true rfl⟩ hl.1 (Nat.le_of_ble_eq_true rfl) d_Model_join_10 ⟨Nat.zero_le _, Nat.zero_le _⟩)) (fun r_3 hr_3 => ?_)
    subst hr_3
    refine lv_if_ne (tgt := 18) hx hb d_Model_join_13 (by decide) (fun c_4 => ?_) (fun c_4 => ?_)
    · have c_4 : (mo_ok (sc 3) dv) = true := bI_t c_4
      obtain ⟨zdv, hzdv, ezdv⟩ := mo_ix (by omega) c_4
      subst ezdv
      have hczdv : (nI zdv).toNatClampNeg = zdv := nI_clamp (by omega)
      refine lv_aload_n hx hb d_Model_join_18 rfl (lv_at hl 0 rfl) ?_
      refine lv_iload_n hx hb d_Model_join_19 rfl (lv_at hl 1 rfl) ?_
      refine lv_iload_n hx hb d_Model_join_20 rfl (lv_at hl 2 rfl) ?_
      refine va_calli (sy_runV (As := [.int (nI zd), .int (nI zdv)]) (rest := []) (b := ob) ⟨hx, hb, hml, hown, ht⟩ cl_Model_99 (c_Model_joinTo l G ob ad sc mI mL mZ zd zdv (by omega) (by omega)) hK ⟨hP, sy_any hD⟩ (va_recv hK.1 hP (ci := 7) (q0 := 0) rfl rfl) rfl nm_Model_joinTo rfl rfl ⟨Nat.le_of_ble_eq_true rfl, Nat.le_of_ble_eq_true rfl⟩ hl.1 (Nat.le_of_ble_eq_true rfl) d_Model_join_21 ⟨Nat.zero_le _, Nat.zero_le _⟩) hS (fun q _ h => sy_in hD h) (fun q h => sy_in hD h) (fun r_5 u_6 t9 H locs ht9 hvm9 hw9 hB9 hz9 hk9 hS => ?_)
      obtain ⟨hr_5, hu_6⟩ := hw9
      subst hr_5
      subst hu_6
      rw [ht9] at hB9
      have hP : va_P G.1 classes (mw G.2 ob ad (mo_joinTo sc mI mL mZ zd zdv).2.1 (mo_joinTo sc mI mL mZ zd zdv).2.2.1 (mo_joinTo sc mI mL mZ zd zdv).2.2.2.1 (mo_joinTo sc mI mL mZ zd zdv).2.2.2.2) H := hB9
      have hD : va_D A (mw G.2 ob ad (mo_joinTo sc mI mL mZ zd zdv).2.1 (mo_joinTo sc mI mL mZ zd zdv).2.2.1 (mo_joinTo sc mI mL mZ zd zdv).2.2.2.1 (mo_joinTo sc mI mL mZ zd zdv).2.2.2.2) := sy_Da hD rfl
      refine lv_istore_n (lv' := [(3, .int (bI ((mo_joinTo sc mI mL mZ zd zdv).1))), (0, .ref ob), (1, .int (nI zd)), (2, .int (nI zdv))]) hx hb d_Model_join_24 rfl hl (by decide) rfl (fun ls hl => ?_)
      refine lv_aload_n hx hb d_Model_join_25 rfl (lv_at hl 1 rfl) ?_
      refine lv_iload_n hx hb d_Model_join_26 rfl (lv_at hl 2 rfl) ?_
      refine vp_callSi (va_Run.run (sy_runV (As := [.int (nI zd)]) (rest := []) (b := ob) ⟨hx, hb, hml, hown, ht⟩ cl_Model_102 (c_Model_conflicts l G ob ad ((mo_joinTo sc mI mL mZ zd zdv).2.1) ((mo_joinTo sc mI mL mZ zd zdv).2.2.1) ((mo_joinTo sc mI mL mZ zd zdv).2.2.2.1) ((mo_joinTo sc mI mL mZ zd zdv).2.2.2.2) zd hn (by omega)) hK hP (va_recv hK.1 hP (ci := 7) (q0 := 0) rfl rfl) rfl nm_Model_conflicts rfl rfl ⟨Nat.le_of_ble_eq_true rfl, Nat.le_of_ble_eq_true rfl⟩ hl.1 (Nat.le_of_ble_eq_true rfl) d_Model_join_27 ⟨Nat.zero_le _, Nat.zero_le _⟩)) (fun r_7 hr_7 => ?_)
      subst hr_7
      exact W.iret (v := nI (mo_cn ((mo_joinTo sc mI mL mZ zd zdv).2.2.1) ((mo_joinTo sc mI mL mZ zd zdv).2.2.2.1) ((mo_joinTo sc mI mL mZ zd zdv).2.2.2.2) (((mo_joinTo sc mI mL mZ zd zdv).2.1) 1) zd)) hx hb hr (fun t ht hW => ⟨⟨nI (mo_cn ((mo_joinTo sc mI mL mZ zd zdv).2.2.1) ((mo_joinTo sc mI mL mZ zd zdv).2.2.2.1) ((mo_joinTo sc mI mL mZ zd zdv).2.2.2.2) (((mo_joinTo sc mI mL mZ zd zdv).2.1) 1) zd), ((mo_joinTo sc mI mL mZ zd zdv).2.1, (mo_joinTo sc mI mL mZ zd zdv).2.2.1, (mo_joinTo sc mI mL mZ zd zdv).2.2.2.1, (mo_joinTo sc mI mL mZ zd zdv).2.2.2.2), rfl, by first | (constructor <;> simp [mo_join, c_2, hczd, c_4, hczdv]; done) | (constructor <;> (rw [mo_join, if_pos (by simp [c_2, hczd, c_4, hczdv]; done), hczd, hczdv]; try rfl)), by show va_P _ _ _ t.heap; rw [ht]; exact hP⟩, hS.F ht⟩) hS.2.2 d_Model_join_30
    · have c_4 : (mo_ok (sc 3) dv) = false := bI_f c_4
      refine lv_iconst (v := (-1)) hx hb d_Model_join_16 (by decide) ?_
      exact W.iret (v := (-1 : Int32)) hx hb hr (fun t ht hW => ⟨⟨(-1 : Int32), (sc, mI, mL, mZ), rfl, by first | (constructor <;> simp [mo_join, c_2, hczd, c_4]; done) | (constructor <;> (rw [mo_join, if_pos (by simp [c_2, hczd, c_4]; done), hczd, hczdv]; try rfl)), by show va_P _ _ _ t.heap; rw [ht]; exact hP⟩, hS.F ht⟩) hS.2.2 d_Model_join_17
