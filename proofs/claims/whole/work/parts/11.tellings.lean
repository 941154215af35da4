set_option maxHeartbeats 4000000 in
set_option maxRecDepth 100000 in
theorem c_Tellings_isBefore (l : Launch) (G : sy_G) (h0 : Nat) (ad : Nat → Nat) (n : Nat) (fI : Nat → Nat → Int32) (fL : Nat → Nat → Int64) (a : Nat) (b : Nat) (ha : a < 60) (hb2 : b < 60) : Met l y_Tellings_isBefore (sy_w y_Tellings_isBefore b_Tellings_isBefore 3 (some .boolean)) { frames := 0, cells := 0, slots := 0, locals := 0 } (va_Pc [.ref h0, .int (nI a), .int (nI b)] (sy_KP G (va_P G.1 classes (tw G.2 h0 ad n fI fL)))) (vp_Si (fun r => r = bI (tl_bf fI fL a b))) 0 0 (fun _ => False) := by
  refine Met.ofW (cc := b_Tellings_isBefore) (maxL := 3) (ret := (some .boolean)) (by decide) rfl ?_
  intro p e s m args below meth c s₁ B hml hv
  obtain ⟨rfl, hP, hK⟩ := hv
  have hx := B.exec
  have hb := B.bytes
  have hr := B.returns
  have hts := atoms_spec (ws := sy_w y_Tellings_isBefore b_Tellings_isBefore 3 (some .boolean)) B.pre
  have ht : ∀ wd ∈ sy_T, wd.before ([.ref h0, .int (nI a), .int (nI b)] : List Value).toArray s = true := fun wd h => hts wd (List.mem_cons_of_mem _ h)
  have hown : s.vm.findClass R_Tellings = some m.cls := findClass_of_methodNamed B.named
  have hlocks := B.notSynchronized
  have hl := lv_entry ([.ref h0, .int (nI a), .int (nI b)]) (n := 3) (Nat.le_of_ble_eq_true rfl)
  rw [lg_entry_eq]
  generalize (lg_sl ([.ref h0, .int (nI a), .int (nI b)]) ++ List.replicate (3 - (lg_sl ([.ref h0, .int (nI a), .int (nI b)])).length) Slot.unset).toArray = ls at hl ⊢
  have hl : lv_has ls 3 [(0, .ref h0), (1, .int (nI a)), (2, .int (nI b))] := hl
  refine lv_aload_n hx hb d_Tellings_isBefore_0 rfl (lv_at hl 0 rfl) ?_
  refine va_get (D := G.1) (ci := 5) (v := .ref (ad 0)) (C := R_Tellings) (T := F_Tellings) (N := 8) hx hb ht i_Tellings hown hK.1 hP 0 rfl rfl 0 (by decide) (ht _ m_58) (fun _ h9 => h9) rfl d_Tellings_isBefore_1 ?_
  refine lv_iload_n hx hb d_Tellings_isBefore_4 rfl (lv_at hl 1 rfl) ?_
  refine sy_iald hx hb hK.1 hP 1 0 rfl rfl (k := a) (by omega) (by decide) d_Tellings_isBefore_5 ?_
  refine lv_aload_n hx hb d_Tellings_isBefore_6 rfl (lv_at hl 0 rfl) ?_
  refine va_get (D := G.1) (ci := 5) (v := .ref (ad 0)) (C := R_Tellings) (T := F_Tellings) (N := 8) hx hb ht i_Tellings hown hK.1 hP 0 rfl rfl 0 (by decide) (ht _ m_58) (fun _ h9 => h9) rfl d_Tellings_isBefore_7 ?_
  refine lv_iload_n hx hb d_Tellings_isBefore_10 rfl (lv_at hl 2 rfl) ?_
  refine sy_iald hx hb hK.1 hP 1 0 rfl rfl (k := b) (by omega) (by decide) d_Tellings_isBefore_11 ?_
  refine lv_icmp_eq (tgt := 36) hx hb d_Tellings_isBefore_12 (by decide) (fun c_1 => ?_) (fun c_1 => ?_)
  · refine lv_aload_n hx hb d_Tellings_isBefore_36 rfl (lv_at hl 0 rfl) ?_
    refine va_get (D := G.1) (ci := 5) (v := .ref (ad 1)) (C := R_Tellings) (T := F_Tellings) (N := 8) hx hb ht i_Tellings hown hK.1 hP 0 rfl rfl 1 (by decide) (ht _ m_59) (fun _ h9 => h9) rfl d_Tellings_isBefore_37 ?_
    refine lv_iload_n hx hb d_Tellings_isBefore_40 rfl (lv_at hl 1 rfl) ?_
    refine sy_iald hx hb hK.1 hP 2 0 rfl rfl (k := a) (by omega) (by decide) d_Tellings_isBefore_41 ?_
    refine lv_aload_n hx hb d_Tellings_isBefore_42 rfl (lv_at hl 0 rfl) ?_
    refine va_get (D := G.1) (ci := 5) (v := .ref (ad 1)) (C := R_Tellings) (T := F_Tellings) (N := 8) hx hb ht i_Tellings hown hK.1 hP 0 rfl rfl 1 (by decide) (ht _ m_59) (fun _ h9 => h9) rfl d_Tellings_isBefore_43 ?_
    refine lv_iload_n hx hb d_Tellings_isBefore_46 rfl (lv_at hl 2 rfl) ?_
    refine sy_iald hx hb hK.1 hP 2 0 rfl rfl (k := b) (by omega) (by decide) d_Tellings_isBefore_47 ?_
    refine lv_icmp_eq (tgt := 72) hx hb d_Tellings_isBefore_48 (by decide) (fun c_2 => ?_) (fun c_2 => ?_)
    · refine lv_aload_n hx hb d_Tellings_isBefore_72 rfl (lv_at hl 0 rfl) ?_
      refine va_get (D := G.1) (ci := 5) (v := .ref (ad 2)) (C := R_Tellings) (T := F_Tellings) (N := 8) hx hb ht i_Tellings hown hK.1 hP 0 rfl rfl 2 (by decide) (ht _ m_60) (fun _ h9 => h9) rfl d_Tellings_isBefore_73 ?_
      refine lv_iload_n hx hb d_Tellings_isBefore_76 rfl (lv_at hl 1 rfl) ?_
      refine sy_iald hx hb hK.1 hP 3 0 rfl rfl (k := a) (by omega) (by decide) d_Tellings_isBefore_77 ?_
      refine lv_aload_n hx hb d_Tellings_isBefore_78 rfl (lv_at hl 0 rfl) ?_
      refine va_get (D := G.1) (ci := 5) (v := .ref (ad 2)) (C := R_Tellings) (T := F_Tellings) (N := 8) hx hb ht i_Tellings hown hK.1 hP 0 rfl rfl 2 (by decide) (ht _ m_60) (fun _ h9 => h9) rfl d_Tellings_isBefore_79 ?_
      refine lv_iload_n hx hb d_Tellings_isBefore_82 rfl (lv_at hl 2 rfl) ?_
      refine sy_iald hx hb hK.1 hP 3 0 rfl rfl (k := b) (by omega) (by decide) d_Tellings_isBefore_83 ?_
      refine lv_icmp_eq (tgt := 108) hx hb d_Tellings_isBefore_84 (by decide) (fun c_3 => ?_) (fun c_3 => ?_)
      · refine lv_aload_n hx hb d_Tellings_isBefore_108 rfl (lv_at hl 0 rfl) ?_
        refine va_get (D := G.1) (ci := 5) (v := .ref (ad 3)) (C := R_Tellings) (T := F_Tellings) (N := 8) hx hb ht i_Tellings hown hK.1 hP 0 rfl rfl 3 (by decide) (ht _ m_61) (fun _ h9 => h9) rfl d_Tellings_isBefore_109 ?_
        refine lv_iload_n hx hb d_Tellings_isBefore_112 rfl (lv_at hl 1 rfl) ?_
        refine sy_iald hx hb hK.1 hP 4 0 rfl rfl (k := a) (by omega) (by decide) d_Tellings_isBefore_113 ?_
        refine lv_aload_n hx hb d_Tellings_isBefore_114 rfl (lv_at hl 0 rfl) ?_
        refine va_get (D := G.1) (ci := 5) (v := .ref (ad 3)) (C := R_Tellings) (T := F_Tellings) (N := 8) hx hb ht i_Tellings hown hK.1 hP 0 rfl rfl 3 (by decide) (ht _ m_61) (fun _ h9 => h9) rfl d_Tellings_isBefore_115 ?_
        refine lv_iload_n hx hb d_Tellings_isBefore_118 rfl (lv_at hl 2 rfl) ?_
        refine sy_iald hx hb hK.1 hP 4 0 rfl rfl (k := b) (by omega) (by decide) d_Tellings_isBefore_119 ?_
        refine lv_icmp_eq (tgt := 144) hx hb d_Tellings_isBefore_120 (by decide) (fun c_4 => ?_) (fun c_4 => ?_)
        · refine lv_aload_n hx hb d_Tellings_isBefore_144 rfl (lv_at hl 0 rfl) ?_
          refine va_get (D := G.1) (ci := 5) (v := .ref (ad 4)) (C := R_Tellings) (T := F_Tellings) (N := 8) hx hb ht i_Tellings hown hK.1 hP 0 rfl rfl 4 (by decide) (ht _ m_62) (fun _ h9 => h9) rfl d_Tellings_isBefore_145 ?_
          refine lv_iload_n hx hb d_Tellings_isBefore_148 rfl (lv_at hl 1 rfl) ?_
          refine sy_lald hx hb hK.1 hP 5 1 rfl rfl (k := a) (by omega) (by decide) d_Tellings_isBefore_149 ?_
          refine lv_aload_n hx hb d_Tellings_isBefore_150 rfl (lv_at hl 0 rfl) ?_
          refine va_get (D := G.1) (ci := 5) (v := .ref (ad 4)) (C := R_Tellings) (T := F_Tellings) (N := 8) hx hb ht i_Tellings hown hK.1 hP 0 rfl rfl 4 (by decide) (ht _ m_62) (fun _ h9 => h9) rfl d_Tellings_isBefore_151 ?_
          refine lv_iload_n hx hb d_Tellings_isBefore_154 rfl (lv_at hl 2 rfl) ?_
          refine sy_lald hx hb hK.1 hP 5 1 rfl rfl (k := b) (by omega) (by decide) d_Tellings_isBefore_155 ?_
          refine sy_lc_eq (tgt := 182) hx hb d_Tellings_isBefore_156 d_Tellings_isBefore_157 (by decide) (fun c_5 => ?_) (fun c_5 => ?_)
          · refine lv_aload_n hx hb d_Tellings_isBefore_182 rfl (lv_at hl 0 rfl) ?_
            refine va_get (D := G.1) (ci := 5) (v := .ref (ad 5)) (C := R_Tellings) (T := F_Tellings) (N := 8) hx hb ht i_Tellings hown hK.1 hP 0 rfl rfl 5 (by decide) (ht _ m_64) (fun _ h9 => h9) rfl d_Tellings_isBefore_183 ?_
            refine lv_iload_n hx hb d_Tellings_isBefore_186 rfl (lv_at hl 1 rfl) ?_
            refine sy_lald hx hb hK.1 hP 6 1 rfl rfl (k := a) (by omega) (by decide) d_Tellings_isBefore_187 ?_
            refine lv_aload_n hx hb d_Tellings_isBefore_188 rfl (lv_at hl 0 rfl) ?_
            refine va_get (D := G.1) (ci := 5) (v := .ref (ad 5)) (C := R_Tellings) (T := F_Tellings) (N := 8) hx hb ht i_Tellings hown hK.1 hP 0 rfl rfl 5 (by decide) (ht _ m_64) (fun _ h9 => h9) rfl d_Tellings_isBefore_189 ?_
            refine lv_iload_n hx hb d_Tellings_isBefore_192 rfl (lv_at hl 2 rfl) ?_
            refine sy_lald hx hb hK.1 hP 6 1 rfl rfl (k := b) (by omega) (by decide) d_Tellings_isBefore_193 ?_
            refine sy_lc_ge (tgt := 202) hx hb d_Tellings_isBefore_194 d_Tellings_isBefore_195 (by decide) (fun c_6 => ?_) (fun c_6 => ?_)
            · have c_6n := sy_c64 c_6
              refine lv_iconst (v := 0) hx hb d_Tellings_isBefore_202 (by decide) ?_
              exact W.zret (v := (0 : Int32)) hx hb hr (rfl) (fun t ht hW => ⟨(0 : Int32), rfl, by simp [bI, tl_bf, c_1, c_2, c_3, c_4, c_5, c_6, c_6n], ht⟩) (fun q h => by cases h) d_Tellings_isBefore_203
            · have c_6n := sy_d64 c_6
              refine lv_iconst (v := 1) hx hb d_Tellings_isBefore_198 (by decide) ?_
              refine lv_goto (tgt := 203) hx hb d_Tellings_isBefore_199 (by decide) ?_
              exact W.zret (v := (1 : Int32)) hx hb hr (rfl) (fun t ht hW => ⟨(1 : Int32), rfl, by simp [bI, tl_bf, c_1, c_2, c_3, c_4, c_5, c_6, c_6n], ht⟩) (fun q h => by cases h) d_Tellings_isBefore_203
          · refine lv_aload_n hx hb d_Tellings_isBefore_160 rfl (lv_at hl 0 rfl) ?_
            refine va_get (D := G.1) (ci := 5) (v := .ref (ad 4)) (C := R_Tellings) (T := F_Tellings) (N := 8) hx hb ht i_Tellings hown hK.1 hP 0 rfl rfl 4 (by decide) (ht _ m_62) (fun _ h9 => h9) rfl d_Tellings_isBefore_161 ?_
            refine lv_iload_n hx hb d_Tellings_isBefore_164 rfl (lv_at hl 1 rfl) ?_
            refine sy_lald hx hb hK.1 hP 5 1 rfl rfl (k := a) (by omega) (by decide) d_Tellings_isBefore_165 ?_
            refine lv_aload_n hx hb d_Tellings_isBefore_166 rfl (lv_at hl 0 rfl) ?_
            refine va_get (D := G.1) (ci := 5) (v := .ref (ad 4)) (C := R_Tellings) (T := F_Tellings) (N := 8) hx hb ht i_Tellings hown hK.1 hP 0 rfl rfl 4 (by decide) (ht _ m_62) (fun _ h9 => h9) rfl d_Tellings_isBefore_167 ?_
            refine lv_iload_n hx hb d_Tellings_isBefore_170 rfl (lv_at hl 2 rfl) ?_
            refine sy_lald hx hb hK.1 hP 5 1 rfl rfl (k := b) (by omega) (by decide) d_Tellings_isBefore_171 ?_
            refine sy_lc_ge (tgt := 180) hx hb d_Tellings_isBefore_172 d_Tellings_isBefore_173 (by decide) (fun c_7 => ?_) (fun c_7 => ?_)
            · have c_7n := sy_c64 c_7
              refine lv_iconst (v := 0) hx hb d_Tellings_isBefore_180 (by decide) ?_
              exact W.zret (v := (0 : Int32)) hx hb hr (rfl) (fun t ht hW => ⟨(0 : Int32), rfl, by simp [bI, tl_bf, c_1, c_2, c_3, c_4, c_5, c_7, c_7n], ht⟩) (fun q h => by cases h) d_Tellings_isBefore_181
            · have c_7n := sy_d64 c_7
              refine lv_iconst (v := 1) hx hb d_Tellings_isBefore_176 (by decide) ?_
              refine lv_goto (tgt := 181) hx hb d_Tellings_isBefore_177 (by decide) ?_
              exact W.zret (v := (1 : Int32)) hx hb hr (rfl) (fun t ht hW => ⟨(1 : Int32), rfl, by simp [bI, tl_bf, c_1, c_2, c_3, c_4, c_5, c_7, c_7n], ht⟩) (fun q h => by cases h) d_Tellings_isBefore_181
        · refine lv_aload_n hx hb d_Tellings_isBefore_123 rfl (lv_at hl 0 rfl) ?_
          refine va_get (D := G.1) (ci := 5) (v := .ref (ad 3)) (C := R_Tellings) (T := F_Tellings) (N := 8) hx hb ht i_Tellings hown hK.1 hP 0 rfl rfl 3 (by decide) (ht _ m_61) (fun _ h9 => h9) rfl d_Tellings_isBefore_124 ?_
          refine lv_iload_n hx hb d_Tellings_isBefore_127 rfl (lv_at hl 1 rfl) ?_
          refine sy_iald hx hb hK.1 hP 4 0 rfl rfl (k := a) (by omega) (by decide) d_Tellings_isBefore_128 ?_
          refine lv_aload_n hx hb d_Tellings_isBefore_129 rfl (lv_at hl 0 rfl) ?_
          refine va_get (D := G.1) (ci := 5) (v := .ref (ad 3)) (C := R_Tellings) (T := F_Tellings) (N := 8) hx hb ht i_Tellings hown hK.1 hP 0 rfl rfl 3 (by decide) (ht _ m_61) (fun _ h9 => h9) rfl d_Tellings_isBefore_130 ?_
          refine lv_iload_n hx hb d_Tellings_isBefore_133 rfl (lv_at hl 2 rfl) ?_
          refine sy_iald hx hb hK.1 hP 4 0 rfl rfl (k := b) (by omega) (by decide) d_Tellings_isBefore_134 ?_
          refine lv_icmp_ge (tgt := 142) hx hb d_Tellings_isBefore_135 (by decide) (fun c_8 => ?_) (fun c_8 => ?_)
          · have c_8n := sy_c32 c_8
            refine lv_iconst (v := 0) hx hb d_Tellings_isBefore_142 (by decide) ?_
            exact W.zret (v := (0 : Int32)) hx hb hr (rfl) (fun t ht hW => ⟨(0 : Int32), rfl, by simp [bI, tl_bf, c_1, c_2, c_3, c_4, c_8, c_8n], ht⟩) (fun q h => by cases h) d_Tellings_isBefore_143
          · have c_8n := sy_d32 c_8
            refine lv_iconst (v := 1) hx hb d_Tellings_isBefore_138 (by decide) ?_
            refine lv_goto (tgt := 143) hx hb d_Tellings_isBefore_139 (by decide) ?_
            exact W.zret (v := (1 : Int32)) hx hb hr (rfl) (fun t ht hW => ⟨(1 : Int32), rfl, by simp [bI, tl_bf, c_1, c_2, c_3, c_4, c_8, c_8n], ht⟩) (fun q h => by cases h) d_Tellings_isBefore_143
      · refine lv_aload_n hx hb d_Tellings_isBefore_87 rfl (lv_at hl 0 rfl) ?_
        refine va_get (D := G.1) (ci := 5) (v := .ref (ad 2)) (C := R_Tellings) (T := F_Tellings) (N := 8) hx hb ht i_Tellings hown hK.1 hP 0 rfl rfl 2 (by decide) (ht _ m_60) (fun _ h9 => h9) rfl d_Tellings_isBefore_88 ?_
        refine lv_iload_n hx hb d_Tellings_isBefore_91 rfl (lv_at hl 1 rfl) ?_
        refine sy_iald hx hb hK.1 hP 3 0 rfl rfl (k := a) (by omega) (by decide) d_Tellings_isBefore_92 ?_
        refine lv_aload_n hx hb d_Tellings_isBefore_93 rfl (lv_at hl 0 rfl) ?_
        refine va_get (D := G.1) (ci := 5) (v := .ref (ad 2)) (C := R_Tellings) (T := F_Tellings) (N := 8) hx hb ht i_Tellings hown hK.1 hP 0 rfl rfl 2 (by decide) (ht _ m_60) (fun _ h9 => h9) rfl d_Tellings_isBefore_94 ?_
        refine lv_iload_n hx hb d_Tellings_isBefore_97 rfl (lv_at hl 2 rfl) ?_
        refine sy_iald hx hb hK.1 hP 3 0 rfl rfl (k := b) (by omega) (by decide) d_Tellings_isBefore_98 ?_
        refine lv_icmp_ge (tgt := 106) hx hb d_Tellings_isBefore_99 (by decide) (fun c_9 => ?_) (fun c_9 => ?_)
        · have c_9n := sy_c32 c_9
          refine lv_iconst (v := 0) hx hb d_Tellings_isBefore_106 (by decide) ?_
          exact W.zret (v := (0 : Int32)) hx hb hr (rfl) (fun t ht hW => ⟨(0 : Int32), rfl, by simp [bI, tl_bf, c_1, c_2, c_3, c_9, c_9n], ht⟩) (fun q h => by cases h) d_Tellings_isBefore_107
        · have c_9n := sy_d32 c_9
          refine lv_iconst (v := 1) hx hb d_Tellings_isBefore_102 (by decide) ?_
          refine lv_goto (tgt := 107) hx hb d_Tellings_isBefore_103 (by decide) ?_
          exact W.zret (v := (1 : Int32)) hx hb hr (rfl) (fun t ht hW => ⟨(1 : Int32), rfl, by simp [bI, tl_bf, c_1, c_2, c_3, c_9, c_9n], ht⟩) (fun q h => by cases h) d_Tellings_isBefore_107
    · refine lv_aload_n hx hb d_Tellings_isBefore_51 rfl (lv_at hl 0 rfl) ?_
      refine va_get (D := G.1) (ci := 5) (v := .ref (ad 1)) (C := R_Tellings) (T := F_Tellings) (N := 8) hx hb ht i_Tellings hown hK.1 hP 0 rfl rfl 1 (by decide) (ht _ m_59) (fun _ h9 => h9) rfl d_Tellings_isBefore_52 ?_
      refine lv_iload_n hx hb d_Tellings_isBefore_55 rfl (lv_at hl 1 rfl) ?_
      refine sy_iald hx hb hK.1 hP 2 0 rfl rfl (k := a) (by omega) (by decide) d_Tellings_isBefore_56 ?_
      refine lv_aload_n hx hb d_Tellings_isBefore_57 rfl (lv_at hl 0 rfl) ?_
      refine va_get (D := G.1) (ci := 5) (v := .ref (ad 1)) (C := R_Tellings) (T := F_Tellings) (N := 8) hx hb ht i_Tellings hown hK.1 hP 0 rfl rfl 1 (by decide) (ht _ m_59) (fun _ h9 => h9) rfl d_Tellings_isBefore_58 ?_
      refine lv_iload_n hx hb d_Tellings_isBefore_61 rfl (lv_at hl 2 rfl) ?_
      refine sy_iald hx hb hK.1 hP 2 0 rfl rfl (k := b) (by omega) (by decide) d_Tellings_isBefore_62 ?_
      refine lv_icmp_ge (tgt := 70) hx hb d_Tellings_isBefore_63 (by decide) (fun c_10 => ?_) (fun c_10 => ?_)
      · have c_10n := sy_c32 c_10
        refine lv_iconst (v := 0) hx hb d_Tellings_isBefore_70 (by decide) ?_
        exact W.zret (v := (0 : Int32)) hx hb hr (rfl) (fun t ht hW => ⟨(0 : Int32), rfl, by simp [bI, tl_bf, c_1, c_2, c_10, c_10n], ht⟩) (fun q h => by cases h) d_Tellings_isBefore_71
      · have c_10n := sy_d32 c_10
        refine lv_iconst (v := 1) hx hb d_Tellings_isBefore_66 (by decide) ?_
        refine lv_goto (tgt := 71) hx hb d_Tellings_isBefore_67 (by decide) ?_
        exact W.zret (v := (1 : Int32)) hx hb hr (rfl) (fun t ht hW => ⟨(1 : Int32), rfl, by simp [bI, tl_bf, c_1, c_2, c_10, c_10n], ht⟩) (fun q h => by cases h) d_Tellings_isBefore_71
  · refine lv_aload_n hx hb d_Tellings_isBefore_15 rfl (lv_at hl 0 rfl) ?_
    refine va_get (D := G.1) (ci := 5) (v := .ref (ad 0)) (C := R_Tellings) (T := F_Tellings) (N := 8) hx hb ht i_Tellings hown hK.1 hP 0 rfl rfl 0 (by decide) (ht _ m_58) (fun _ h9 => h9) rfl d_Tellings_isBefore_16 ?_
    refine lv_iload_n hx hb d_Tellings_isBefore_19 rfl (lv_at hl 1 rfl) ?_
    refine sy_iald hx hb hK.1 hP 1 0 rfl rfl (k := a) (by omega) (by decide) d_Tellings_isBefore_20 ?_
    refine lv_aload_n hx hb d_Tellings_isBefore_21 rfl (lv_at hl 0 rfl) ?_
    refine va_get (D := G.1) (ci := 5) (v := .ref (ad 0)) (C := R_Tellings) (T := F_Tellings) (N := 8) hx hb ht i_Tellings hown hK.1 hP 0 rfl rfl 0 (by decide) (ht _ m_58) (fun _ h9 => h9) rfl d_Tellings_isBefore_22 ?_
    refine lv_iload_n hx hb d_Tellings_isBefore_25 rfl (lv_at hl 2 rfl) ?_
    refine sy_iald hx hb hK.1 hP 1 0 rfl rfl (k := b) (by omega) (by decide) d_Tellings_isBefore_26 ?_
    refine lv_icmp_ge (tgt := 34) hx hb d_Tellings_isBefore_27 (by decide) (fun c_11 => ?_) (fun c_11 => ?_)
    · have c_11n := sy_c32 c_11
      refine lv_iconst (v := 0) hx hb d_Tellings_isBefore_34 (by decide) ?_
      exact W.zret (v := (0 : Int32)) hx hb hr (rfl) (fun t ht hW => ⟨(0 : Int32), rfl, by simp [bI, tl_bf, c_1, c_11, c_11n], ht⟩) (fun q h => by cases h) d_Tellings_isBefore_35
    · have c_11n := sy_d32 c_11
      refine lv_iconst (v := 1) hx hb d_Tellings_isBefore_30 (by decide) ?_
      refine lv_goto (tgt := 35) hx hb d_Tellings_isBefore_31 (by decide) ?_
      exact W.zret (v := (1 : Int32)) hx hb hr (rfl) (fun t ht hW => ⟨(1 : Int32), rfl, by simp [bI, tl_bf, c_1, c_11, c_11n], ht⟩) (fun q h => by cases h) d_Tellings_isBefore_35
set_option maxHeartbeats 4000000 in
set_option maxRecDepth 100000 in
theorem c_Tellings_has (l : Launch) (G : sy_G) (h0 : Nat) (ad : Nat → Nat) (n : Nat) (fI : Nat → Nat → Int32) (fL : Nat → Nat → Int64) (d : Int32) (lf : Int32) (nu : Int32) (kd : Int32) (se : Int64) (v : Int64) (hn : n ≤ 60) : Met l y_Tellings_has (sy_w y_Tellings_has b_Tellings_has 10 (some .boolean)) { frames := 0, cells := 0, slots := 0, locals := 0 } (va_Pc [.ref h0, .int d, .int lf, .int nu, .int kd, .long se, .long v] (sy_KP G (va_P G.1 classes (tw G.2 h0 ad n fI fL)))) (vp_Si (fun r => r = bI (tl_has fI fL n d lf nu kd se v))) 0 0 (fun _ => False) := by
  refine Met.ofW (cc := b_Tellings_has) (maxL := 10) (ret := (some .boolean)) (by decide) rfl ?_
  intro p e s m args below meth c s₁ B hml hv
  obtain ⟨rfl, hP, hK⟩ := hv
  have hx := B.exec
  have hb := B.bytes
  have hr := B.returns
  have hts := atoms_spec (ws := sy_w y_Tellings_has b_Tellings_has 10 (some .boolean)) B.pre
  have ht : ∀ wd ∈ sy_T, wd.before ([.ref h0, .int d, .int lf, .int nu, .int kd, .long se, .long v] : List Value).toArray s = true := fun wd h => hts wd (List.mem_cons_of_mem _ h)
  have hown : s.vm.findClass R_Tellings = some m.cls := findClass_of_methodNamed B.named
  have hlocks := B.notSynchronized
  have hl := lv_entry ([.ref h0, .int d, .int lf, .int nu, .int kd, .long se, .long v]) (n := 10) (Nat.le_of_ble_eq_true rfl)
  rw [lg_entry_eq]
  generalize (lg_sl ([.ref h0, .int d, .int lf, .int nu, .int kd, .long se, .long v]) ++ List.replicate (10 - (lg_sl ([.ref h0, .int d, .int lf, .int nu, .int kd, .long se, .long v])).length) Slot.unset).toArray = ls at hl ⊢
  have hl : lv_has ls 10 [(0, .ref h0), (1, .int d), (2, .int lf), (3, .int nu), (4, .int kd), (5, .long se), (7, .long v)] := hl
  refine lv_iconst (v := 0) hx hb d_Tellings_has_0 (by decide) ?_
  refine lv_istore (lv' := [(9, .int 0), (0, .ref h0), (1, .int d), (2, .int lf), (3, .int nu), (4, .int kd), (5, .long se), (7, .long v)]) hx hb d_Tellings_has_1 hl (by decide) rfl (fun ls hl => ?_)
  refine sy_loop (σ := Nat) (nL := 10) (fun k => n - k) (fun k => [(9, .int (nI k)), (0, .ref h0), (1, .int d), (2, .int lf), (3, .int nu), (4, .int kd), (5, .long se), (7, .long v)]) (fun k => k ≤ n ∧ nn_any (tl_eq fI fL d lf nu kd se v) k = false) ?_ 0 ?_ (lv_sub hl [0, 1, 2, 3, 4, 5, 6, 7] rfl)
  · intro k ls hI hl ih3
    have hl : lv_has ls 10 [(9, .int (nI k)), (0, .ref h0), (1, .int d), (2, .int lf), (3, .int nu), (4, .int kd), (5, .long se), (7, .long v)] := hl
    obtain ⟨hk, hI⟩ := hI
    refine lv_iload hx hb d_Tellings_has_3 (lv_at hl 0 rfl) ?_
    refine lv_aload_n hx hb d_Tellings_has_5 rfl (lv_at hl 1 rfl) ?_
    refine va_get (D := G.1) (ci := 5) (v := .int (nI n)) (C := R_Tellings) (T := F_Tellings) (N := 8) hx hb ht i_Tellings hown hK.1 hP 0 rfl rfl 7 (by decide) (ht _ m_67) (fun _ h9 => h9) rfl d_Tellings_has_6 ?_
    refine lv_icmp_ge (tgt := 91) hx hb d_Tellings_has_9 (by decide) (fun c_1 => ?_) (fun c_1 => ?_)
    · have c_1 : n ≤ k := (nI_leI (a := n) (b := k) (by omega) (by omega)).mp c_1
      have c_1n : ¬ k < n := by omega
      refine lv_iconst (v := 0) hx hb d_Tellings_has_91 (by decide) ?_
      exact W.zret (v := (0 : Int32)) hx hb hr (rfl) (fun t ht hW => ⟨(0 : Int32), rfl, by first | (rw [tl_has, nn_any_of (k := k) (by omega) (by simp [tl_eq, c_1, c_1n]; done)]; rfl) | (rw [tl_has, show n = k by omega, hI]; rfl), ht⟩) (fun q h => by cases h) d_Tellings_has_92
    · have c_1 : ¬ n ≤ k := fun h9 => c_1 ((nI_leI (a := n) (b := k) (by omega) (by omega)).mpr h9)
      have c_1n : k < n := by omega
      refine lv_aload_n hx hb d_Tellings_has_12 rfl (lv_at hl 1 rfl) ?_
      refine va_get (D := G.1) (ci := 5) (v := .ref (ad 0)) (C := R_Tellings) (T := F_Tellings) (N := 8) hx hb ht i_Tellings hown hK.1 hP 0 rfl rfl 0 (by decide) (ht _ m_58) (fun _ h9 => h9) rfl d_Tellings_has_13 ?_
      refine lv_iload hx hb d_Tellings_has_16 (lv_at hl 0 rfl) ?_
      refine sy_iald hx hb hK.1 hP 1 0 rfl rfl (k := k) (by omega) (by decide) d_Tellings_has_18 ?_
      refine lv_iload_n hx hb d_Tellings_has_19 rfl (lv_at hl 2 rfl) ?_
      refine lv_icmp_ne (tgt := 85) hx hb d_Tellings_has_20 (by decide) (fun c_2 => ?_) (fun c_2 => ?_)
      · refine lv_iinc (v := nI (k + 1)) (lv' := [(9, .int (nI (k + 1))), (0, .ref h0), (1, .int d), (2, .int lf), (3, .int nu), (4, .int kd), (5, .long se), (7, .long v)]) hx hb d_Tellings_has_85 hl (k := 0) rfl (nI_add k 1) (by decide) rfl (fun ls hl => ?_)
        refine lv_goto (tgt := 3) hx hb d_Tellings_has_88 (by decide) ?_
        refine ih3 (k + 1) ls (show n - (k + 1) < n - k by omega) ?_ (lv_sub hl [0, 1, 2, 3, 4, 5, 6, 7] rfl)
        exact ⟨by omega, by simp [nn_any, hI, tl_eq, c_1, c_1n, c_2]⟩
      · refine lv_aload_n hx hb d_Tellings_has_23 rfl (lv_at hl 1 rfl) ?_
        refine va_get (D := G.1) (ci := 5) (v := .ref (ad 1)) (C := R_Tellings) (T := F_Tellings) (N := 8) hx hb ht i_Tellings hown hK.1 hP 0 rfl rfl 1 (by decide) (ht _ m_59) (fun _ h9 => h9) rfl d_Tellings_has_24 ?_
        refine lv_iload hx hb d_Tellings_has_27 (lv_at hl 0 rfl) ?_
        refine sy_iald hx hb hK.1 hP 2 0 rfl rfl (k := k) (by omega) (by decide) d_Tellings_has_29 ?_
        refine lv_iload_n hx hb d_Tellings_has_30 rfl (lv_at hl 3 rfl) ?_
        refine lv_icmp_ne (tgt := 85) hx hb d_Tellings_has_31 (by decide) (fun c_3 => ?_) (fun c_3 => ?_)
        · refine lv_iinc (v := nI (k + 1)) (lv' := [(9, .int (nI (k + 1))), (0, .ref h0), (1, .int d), (2, .int lf), (3, .int nu), (4, .int kd), (5, .long se), (7, .long v)]) hx hb d_Tellings_has_85 hl (k := 0) rfl (nI_add k 1) (by decide) rfl (fun ls hl => ?_)
          refine lv_goto (tgt := 3) hx hb d_Tellings_has_88 (by decide) ?_
          refine ih3 (k + 1) ls (show n - (k + 1) < n - k by omega) ?_ (lv_sub hl [0, 1, 2, 3, 4, 5, 6, 7] rfl)
          exact ⟨by omega, by simp [nn_any, hI, tl_eq, c_1, c_1n, c_2, c_3]⟩
        · refine lv_aload_n hx hb d_Tellings_has_34 rfl (lv_at hl 1 rfl) ?_
          refine va_get (D := G.1) (ci := 5) (v := .ref (ad 2)) (C := R_Tellings) (T := F_Tellings) (N := 8) hx hb ht i_Tellings hown hK.1 hP 0 rfl rfl 2 (by decide) (ht _ m_60) (fun _ h9 => h9) rfl d_Tellings_has_35 ?_
          refine lv_iload hx hb d_Tellings_has_38 (lv_at hl 0 rfl) ?_
          refine sy_iald hx hb hK.1 hP 3 0 rfl rfl (k := k) (by omega) (by decide) d_Tellings_has_40 ?_
          refine lv_iload_n hx hb d_Tellings_has_41 rfl (lv_at hl 4 rfl) ?_
          refine lv_icmp_ne (tgt := 85) hx hb d_Tellings_has_42 (by decide) (fun c_4 => ?_) (fun c_4 => ?_)
          · refine lv_iinc (v := nI (k + 1)) (lv' := [(9, .int (nI (k + 1))), (0, .ref h0), (1, .int d), (2, .int lf), (3, .int nu), (4, .int kd), (5, .long se), (7, .long v)]) hx hb d_Tellings_has_85 hl (k := 0) rfl (nI_add k 1) (by decide) rfl (fun ls hl => ?_)
            refine lv_goto (tgt := 3) hx hb d_Tellings_has_88 (by decide) ?_
            refine ih3 (k + 1) ls (show n - (k + 1) < n - k by omega) ?_ (lv_sub hl [0, 1, 2, 3, 4, 5, 6, 7] rfl)
            exact ⟨by omega, by simp [nn_any, hI, tl_eq, c_1, c_1n, c_2, c_3, c_4]⟩
          · refine lv_aload_n hx hb d_Tellings_has_45 rfl (lv_at hl 1 rfl) ?_
            refine va_get (D := G.1) (ci := 5) (v := .ref (ad 3)) (C := R_Tellings) (T := F_Tellings) (N := 8) hx hb ht i_Tellings hown hK.1 hP 0 rfl rfl 3 (by decide) (ht _ m_61) (fun _ h9 => h9) rfl d_Tellings_has_46 ?_
            refine lv_iload hx hb d_Tellings_has_49 (lv_at hl 0 rfl) ?_
            refine sy_iald hx hb hK.1 hP 4 0 rfl rfl (k := k) (by omega) (by decide) d_Tellings_has_51 ?_
            refine lv_iload hx hb d_Tellings_has_52 (lv_at hl 5 rfl) ?_
            refine lv_icmp_ne (tgt := 85) hx hb d_Tellings_has_54 (by decide) (fun c_5 => ?_) (fun c_5 => ?_)
            · refine lv_iinc (v := nI (k + 1)) (lv' := [(9, .int (nI (k + 1))), (0, .ref h0), (1, .int d), (2, .int lf), (3, .int nu), (4, .int kd), (5, .long se), (7, .long v)]) hx hb d_Tellings_has_85 hl (k := 0) rfl (nI_add k 1) (by decide) rfl (fun ls hl => ?_)
              refine lv_goto (tgt := 3) hx hb d_Tellings_has_88 (by decide) ?_
              refine ih3 (k + 1) ls (show n - (k + 1) < n - k by omega) ?_ (lv_sub hl [0, 1, 2, 3, 4, 5, 6, 7] rfl)
              exact ⟨by omega, by simp [nn_any, hI, tl_eq, c_1, c_1n, c_2, c_3, c_4, c_5]⟩
            · refine lv_aload_n hx hb d_Tellings_has_57 rfl (lv_at hl 1 rfl) ?_
              refine va_get (D := G.1) (ci := 5) (v := .ref (ad 4)) (C := R_Tellings) (T := F_Tellings) (N := 8) hx hb ht i_Tellings hown hK.1 hP 0 rfl rfl 4 (by decide) (ht _ m_62) (fun _ h9 => h9) rfl d_Tellings_has_58 ?_
              refine lv_iload hx hb d_Tellings_has_61 (lv_at hl 0 rfl) ?_
              refine sy_lald hx hb hK.1 hP 5 1 rfl rfl (k := k) (by omega) (by decide) d_Tellings_has_63 ?_
              refine lv_lload hx hb d_Tellings_has_64 (lv_at hl 6 rfl) ?_
              refine sy_lc_ne (tgt := 85) hx hb d_Tellings_has_66 d_Tellings_has_67 (by decide) (fun c_6 => ?_) (fun c_6 => ?_)
              · refine lv_iinc (v := nI (k + 1)) (lv' := [(9, .int (nI (k + 1))), (0, .ref h0), (1, .int d), (2, .int lf), (3, .int nu), (4, .int kd), (5, .long se), (7, .long v)]) hx hb d_Tellings_has_85 hl (k := 0) rfl (nI_add k 1) (by decide) rfl (fun ls hl => ?_)
                refine lv_goto (tgt := 3) hx hb d_Tellings_has_88 (by decide) ?_
                refine ih3 (k + 1) ls (show n - (k + 1) < n - k by omega) ?_ (lv_sub hl [0, 1, 2, 3, 4, 5, 6, 7] rfl)
                exact ⟨by omega, by simp [nn_any, hI, tl_eq, c_1, c_1n, c_2, c_3, c_4, c_5, c_6]⟩
              · refine lv_aload_n hx hb d_Tellings_has_70 rfl (lv_at hl 1 rfl) ?_
                refine va_get (D := G.1) (ci := 5) (v := .ref (ad 5)) (C := R_Tellings) (T := F_Tellings) (N := 8) hx hb ht i_Tellings hown hK.1 hP 0 rfl rfl 5 (by decide) (ht _ m_64) (fun _ h9 => h9) rfl d_Tellings_has_71 ?_
                refine lv_iload hx hb d_Tellings_has_74 (lv_at hl 0 rfl) ?_
                refine sy_lald hx hb hK.1 hP 6 1 rfl rfl (k := k) (by omega) (by decide) d_Tellings_has_76 ?_
                refine lv_lload hx hb d_Tellings_has_77 (lv_at hl 7 rfl) ?_
                refine sy_lc_ne (tgt := 85) hx hb d_Tellings_has_79 d_Tellings_has_80 (by decide) (fun c_7 => ?_) (fun c_7 => ?_)
                · refine lv_iinc (v := nI (k + 1)) (lv' := [(9, .int (nI (k + 1))), (0, .ref h0), (1, .int d), (2, .int lf), (3, .int nu), (4, .int kd), (5, .long se), (7, .long v)]) hx hb d_Tellings_has_85 hl (k := 0) rfl (nI_add k 1) (by decide) rfl (fun ls hl => ?_)
                  refine lv_goto (tgt := 3) hx hb d_Tellings_has_88 (by decide) ?_
                  refine ih3 (k + 1) ls (show n - (k + 1) < n - k by omega) ?_ (lv_sub hl [0, 1, 2, 3, 4, 5, 6, 7] rfl)
                  exact ⟨by omega, by simp [nn_any, hI, tl_eq, c_1, c_1n, c_2, c_3, c_4, c_5, c_6, c_7]⟩
                · refine lv_iconst (v := 1) hx hb d_Tellings_has_83 (by decide) ?_
                  exact W.zret (v := (1 : Int32)) hx hb hr (rfl) (fun t ht hW => ⟨(1 : Int32), rfl, by first | (rw [tl_has, nn_any_of (k := k) (by omega) (by simp [tl_eq, c_1, c_1n, c_2, c_3, c_4, c_5, c_6, c_7]; done)]; rfl) | (rw [tl_has, show n = k by omega, hI]; rfl), ht⟩) (fun q h => by cases h) d_Tellings_has_84
  · exact ⟨Nat.zero_le _, rfl⟩
set_option maxHeartbeats 4000000 in
set_option maxRecDepth 100000 in
theorem c_Tellings_ofDevice (l : Launch) (G : sy_G) (h0 : Nat) (ad : Nat → Nat) (n : Nat) (fI : Nat → Nat → Int32) (fL : Nat → Nat → Int64) (w : Int32) (hn : n ≤ 60) : Met l y_Tellings_ofDevice (sy_w y_Tellings_ofDevice b_Tellings_ofDevice 5 (some .long)) { frames := 1, cells := 0, slots := 0, locals := 20 } (va_Pc [.ref h0, .int w] (sy_KP G (va_P G.1 classes (tw G.2 h0 ad n fI fL)))) (vp_Sl (fun r => r = tl_ofD fI n w)) 0 0 (fun _ => False) := by
  refine Met.ofW (cc := b_Tellings_ofDevice) (maxL := 5) (ret := (some .long)) (by decide) rfl ?_
  intro p e s m args below meth c s₁ B hml hv
  obtain ⟨rfl, hP, hK⟩ := hv
  have hx := B.exec
  have hb := B.bytes
  have hr := B.returns
  have hts := atoms_spec (ws := sy_w y_Tellings_ofDevice b_Tellings_ofDevice 5 (some .long)) B.pre
  have ht : ∀ wd ∈ sy_T, wd.before ([.ref h0, .int w] : List Value).toArray s = true := fun wd h => hts wd (List.mem_cons_of_mem _ h)
  have hown : s.vm.findClass R_Tellings = some m.cls := findClass_of_methodNamed B.named
  have hlocks := B.notSynchronized
  have hl := lv_entry ([.ref h0, .int w]) (n := 5) (Nat.le_of_ble_eq_true rfl)
  rw [lg_entry_eq]
  generalize (lg_sl ([.ref h0, .int w]) ++ List.replicate (5 - (lg_sl ([.ref h0, .int w])).length) Slot.unset).toArray = ls at hl ⊢
  have hl : lv_has ls 5 [(0, .ref h0), (1, .int w)] := hl
  refine lv_lconst (v := 0) hx hb d_Tellings_ofDevice_0 (by decide) ?_
  refine lv_lstore_n (lv' := [(2, .long 0), (0, .ref h0), (1, .int w)]) hx hb d_Tellings_ofDevice_1 rfl hl (by decide) rfl (fun ls hl => ?_)
  refine lv_iconst (v := 0) hx hb d_Tellings_ofDevice_2 (by decide) ?_
  refine lv_istore (lv' := [(4, .int 0), (2, .long 0), (0, .ref h0), (1, .int w)]) hx hb d_Tellings_ofDevice_3 hl (by decide) rfl (fun ls hl => ?_)
  refine sy_loop (σ := Nat × Int64) (nL := 5) (fun x5 => match x5 with | (k, f) => n - k) (fun x5 => match x5 with | (k, f) => [(4, .int (nI k)), (2, .long f), (0, .ref h0), (1, .int w)]) (fun x5 => match x5 with | (k, f) => k ≤ n ∧ f = bs_m (tl_pD fI w) k) ?_ (0, (0 : Int64)) ?_ (lv_sub hl [0, 1, 2, 3] rfl)
  · intro x5 ls hI hl ih5
    obtain ⟨k, f⟩ := x5
    have hl : lv_has ls 5 [(4, .int (nI k)), (2, .long f), (0, .ref h0), (1, .int w)] := hl
    obtain ⟨hk, hI⟩ := hI
    refine lv_iload hx hb d_Tellings_ofDevice_5 (lv_at hl 0 rfl) ?_
    refine lv_aload_n hx hb d_Tellings_ofDevice_7 rfl (lv_at hl 2 rfl) ?_
    refine va_get (D := G.1) (ci := 5) (v := .int (nI n)) (C := R_Tellings) (T := F_Tellings) (N := 8) hx hb ht i_Tellings hown hK.1 hP 0 rfl rfl 7 (by decide) (ht _ m_67) (fun _ h9 => h9) rfl d_Tellings_ofDevice_8 ?_
    refine lv_icmp_ge (tgt := 39) hx hb d_Tellings_ofDevice_11 (by decide) (fun c_1 => ?_) (fun c_1 => ?_)
    · have c_1 : n ≤ k := (nI_leI (a := n) (b := k) (by omega) (by omega)).mp c_1
      have c_1n : ¬ k < n := by omega
      refine lv_lload_n hx hb d_Tellings_ofDevice_39 rfl (lv_at hl 1 rfl) ?_
      exact W.lret (v := f) hx hb hr (fun t ht hW => ⟨f, rfl, by rw [hI, show k = n by omega] <;> rfl, ht⟩) (fun q h => by cases h) d_Tellings_ofDevice_40
    · have c_1 : ¬ n ≤ k := fun h9 => c_1 ((nI_leI (a := n) (b := k) (by omega) (by omega)).mpr h9)
      have c_1n : k < n := by omega
      refine lv_aload_n hx hb d_Tellings_ofDevice_14 rfl (lv_at hl 2 rfl) ?_
      refine va_get (D := G.1) (ci := 5) (v := .ref (ad 0)) (C := R_Tellings) (T := F_Tellings) (N := 8) hx hb ht i_Tellings hown hK.1 hP 0 rfl rfl 0 (by decide) (ht _ m_58) (fun _ h9 => h9) rfl d_Tellings_ofDevice_15 ?_
      refine lv_iload hx hb d_Tellings_ofDevice_18 (lv_at hl 0 rfl) ?_
      refine sy_iald hx hb hK.1 hP 1 0 rfl rfl (k := k) (by omega) (by decide) d_Tellings_ofDevice_20 ?_
      refine lv_iload_n hx hb d_Tellings_ofDevice_21 rfl (lv_at hl 3 rfl) ?_
      refine lv_icmp_ne (tgt := 33) hx hb d_Tellings_ofDevice_22 (by decide) (fun c_2 => ?_) (fun c_2 => ?_)
      · refine lv_iinc (v := nI (k + 1)) (lv' := [(4, .int (nI (k + 1))), (2, .long f), (0, .ref h0), (1, .int w)]) hx hb d_Tellings_ofDevice_33 hl (k := 0) rfl (nI_add k 1) (by decide) rfl (fun ls hl => ?_)
        refine lv_goto (tgt := 5) hx hb d_Tellings_ofDevice_36 (by decide) ?_
        refine ih5 (k + 1, f) ls (show n - (k + 1) < n - k by omega) ?_ (lv_sub hl [0, 1, 2, 3] rfl)
        exact ⟨by omega, by first | (rw [bs_m, if_pos (by simp [tl_pD, c_1, c_1n, c_2]; done), ← hI]; done) | (rw [bs_m, if_neg (by simp [tl_pD, c_1, c_1n, c_2]; done), ← hI])⟩
      · refine lv_lload_n hx hb d_Tellings_ofDevice_25 rfl (lv_at hl 1 rfl) ?_
        refine lv_iload hx hb d_Tellings_ofDevice_26 (lv_at hl 0 rfl) ?_
        refine vp_callSl (va_Run.run (sy_runSN (As := [.int (nI k)]) (rest := [.long f]) ⟨hx, hb, hml, hown, ht⟩ cl_Tellings_38 (c_DeviceSets_bit l G k) hK trivial rfl nm_DeviceSets_bit rfl rfl ⟨Nat.le_of_ble_eq_true rfl, Nat.le_of_ble_eq_true rfl⟩ hl.1 (Nat.le_of_ble_eq_true rfl) d_Tellings_ofDevice_28 ⟨Nat.zero_le _, Nat.zero_le _⟩)) (fun r_3 hr_3 => ?_)
        subst hr_3
        refine lv_lor hx hb d_Tellings_ofDevice_31 ?_
        refine lv_lstore_n (lv' := [(2, .long (f ||| (bs_b k))), (4, .int (nI k)), (0, .ref h0), (1, .int w)]) hx hb d_Tellings_ofDevice_32 rfl hl (by decide) rfl (fun ls hl => ?_)
        refine lv_iinc (v := nI (k + 1)) (lv' := [(4, .int (nI (k + 1))), (2, .long (f ||| (bs_b k))), (0, .ref h0), (1, .int w)]) hx hb d_Tellings_ofDevice_33 hl (k := 1) rfl (nI_add k 1) (by decide) rfl (fun ls hl => ?_)
        refine lv_goto (tgt := 5) hx hb d_Tellings_ofDevice_36 (by decide) ?_
        refine ih5 (k + 1, f ||| (bs_b k)) ls (show n - (k + 1) < n - k by omega) ?_ (lv_sub hl [0, 1, 2, 3] rfl)
        exact ⟨by omega, by first | (rw [bs_m, if_pos (by simp [tl_pD, c_1, c_1n, c_2]; done), ← hI]; done) | (rw [bs_m, if_neg (by simp [tl_pD, c_1, c_1n, c_2]; done), ← hI])⟩
  · exact ⟨Nat.zero_le _, rfl⟩
set_option maxHeartbeats 4000000 in
set_option maxRecDepth 100000 in
theorem c_Tellings_ofKind (l : Launch) (G : sy_G) (h0 : Nat) (ad : Nat → Nat) (n : Nat) (fI : Nat → Nat → Int32) (fL : Nat → Nat → Int64) (w : Int32) (kd : Int32) (hn : n ≤ 60) : Met l y_Tellings_ofKind (sy_w y_Tellings_ofKind b_Tellings_ofKind 6 (some .long)) { frames := 1, cells := 0, slots := 0, locals := 20 } (va_Pc [.ref h0, .int w, .int kd] (sy_KP G (va_P G.1 classes (tw G.2 h0 ad n fI fL)))) (vp_Sl (fun r => r = tl_ofK fI n w kd)) 0 0 (fun _ => False) := by
  refine Met.ofW (cc := b_Tellings_ofKind) (maxL := 6) (ret := (some .long)) (by decide) rfl ?_
  intro p e s m args below meth c s₁ B hml hv
  obtain ⟨rfl, hP, hK⟩ := hv
  have hx := B.exec
  have hb := B.bytes
  have hr := B.returns
  have hts := atoms_spec (ws := sy_w y_Tellings_ofKind b_Tellings_ofKind 6 (some .long)) B.pre
  have ht : ∀ wd ∈ sy_T, wd.before ([.ref h0, .int w, .int kd] : List Value).toArray s = true := fun wd h => hts wd (List.mem_cons_of_mem _ h)
  have hown : s.vm.findClass R_Tellings = some m.cls := findClass_of_methodNamed B.named
  have hlocks := B.notSynchronized
  have hl := lv_entry ([.ref h0, .int w, .int kd]) (n := 6) (Nat.le_of_ble_eq_true rfl)
  rw [lg_entry_eq]
  generalize (lg_sl ([.ref h0, .int w, .int kd]) ++ List.replicate (6 - (lg_sl ([.ref h0, .int w, .int kd])).length) Slot.unset).toArray = ls at hl ⊢
  have hl : lv_has ls 6 [(0, .ref h0), (1, .int w), (2, .int kd)] := hl
  refine lv_lconst (v := 0) hx hb d_Tellings_ofKind_0 (by decide) ?_
  refine lv_lstore_n (lv' := [(3, .long 0), (0, .ref h0), (1, .int w), (2, .int kd)]) hx hb d_Tellings_ofKind_1 rfl hl (by decide) rfl (fun ls hl => ?_)
  refine lv_iconst (v := 0) hx hb d_Tellings_ofKind_2 (by decide) ?_
  refine lv_istore (lv' := [(5, .int 0), (3, .long 0), (0, .ref h0), (1, .int w), (2, .int kd)]) hx hb d_Tellings_ofKind_3 hl (by decide) rfl (fun ls hl => ?_)
  refine sy_loop (σ := Nat × Int64) (nL := 6) (fun x5 => match x5 with | (k, f) => n - k) (fun x5 => match x5 with | (k, f) => [(5, .int (nI k)), (3, .long f), (0, .ref h0), (1, .int w), (2, .int kd)]) (fun x5 => match x5 with | (k, f) => k ≤ n ∧ f = bs_m (tl_pK fI w kd) k) ?_ (0, (0 : Int64)) ?_ (lv_sub hl [0, 1, 2, 3, 4] rfl)
  · intro x5 ls hI hl ih5
    obtain ⟨k, f⟩ := x5
    have hl : lv_has ls 6 [(5, .int (nI k)), (3, .long f), (0, .ref h0), (1, .int w), (2, .int kd)] := hl
    obtain ⟨hk, hI⟩ := hI
    refine lv_iload hx hb d_Tellings_ofKind_5 (lv_at hl 0 rfl) ?_
    refine lv_aload_n hx hb d_Tellings_ofKind_7 rfl (lv_at hl 2 rfl) ?_
    refine va_get (D := G.1) (ci := 5) (v := .int (nI n)) (C := R_Tellings) (T := F_Tellings) (N := 8) hx hb ht i_Tellings hown hK.1 hP 0 rfl rfl 7 (by decide) (ht _ m_67) (fun _ h9 => h9) rfl d_Tellings_ofKind_8 ?_
    refine lv_icmp_ge (tgt := 50) hx hb d_Tellings_ofKind_11 (by decide) (fun c_1 => ?_) (fun c_1 => ?_)
    · have c_1 : n ≤ k := (nI_leI (a := n) (b := k) (by omega) (by omega)).mp c_1
      have c_1n : ¬ k < n := by omega
      refine lv_lload_n hx hb d_Tellings_ofKind_50 rfl (lv_at hl 1 rfl) ?_
      exact W.lret (v := f) hx hb hr (fun t ht hW => ⟨f, rfl, by rw [hI, show k = n by omega] <;> rfl, ht⟩) (fun q h => by cases h) d_Tellings_ofKind_51
    · have c_1 : ¬ n ≤ k := fun h9 => c_1 ((nI_leI (a := n) (b := k) (by omega) (by omega)).mpr h9)
      have c_1n : k < n := by omega
      refine lv_aload_n hx hb d_Tellings_ofKind_14 rfl (lv_at hl 2 rfl) ?_
      refine va_get (D := G.1) (ci := 5) (v := .ref (ad 0)) (C := R_Tellings) (T := F_Tellings) (N := 8) hx hb ht i_Tellings hown hK.1 hP 0 rfl rfl 0 (by decide) (ht _ m_58) (fun _ h9 => h9) rfl d_Tellings_ofKind_15 ?_
      refine lv_iload hx hb d_Tellings_ofKind_18 (lv_at hl 0 rfl) ?_
      refine sy_iald hx hb hK.1 hP 1 0 rfl rfl (k := k) (by omega) (by decide) d_Tellings_ofKind_20 ?_
      refine lv_iload_n hx hb d_Tellings_ofKind_21 rfl (lv_at hl 3 rfl) ?_
      refine lv_icmp_ne (tgt := 44) hx hb d_Tellings_ofKind_22 (by decide) (fun c_2 => ?_) (fun c_2 => ?_)
      · refine lv_iinc (v := nI (k + 1)) (lv' := [(5, .int (nI (k + 1))), (3, .long f), (0, .ref h0), (1, .int w), (2, .int kd)]) hx hb d_Tellings_ofKind_44 hl (k := 0) rfl (nI_add k 1) (by decide) rfl (fun ls hl => ?_)
        refine lv_goto (tgt := 5) hx hb d_Tellings_ofKind_47 (by decide) ?_
        refine ih5 (k + 1, f) ls (show n - (k + 1) < n - k by omega) ?_ (lv_sub hl [0, 1, 2, 3, 4] rfl)
        exact ⟨by omega, by first | (rw [bs_m, if_pos (by simp [tl_pK, c_1, c_1n, c_2]; done), ← hI]; done) | (rw [bs_m, if_neg (by simp [tl_pK, c_1, c_1n, c_2]; done), ← hI])⟩
      · refine lv_aload_n hx hb d_Tellings_ofKind_25 rfl (lv_at hl 2 rfl) ?_
        refine va_get (D := G.1) (ci := 5) (v := .ref (ad 3)) (C := R_Tellings) (T := F_Tellings) (N := 8) hx hb ht i_Tellings hown hK.1 hP 0 rfl rfl 3 (by decide) (ht _ m_61) (fun _ h9 => h9) rfl d_Tellings_ofKind_26 ?_
        refine lv_iload hx hb d_Tellings_ofKind_29 (lv_at hl 0 rfl) ?_
        refine sy_iald hx hb hK.1 hP 4 0 rfl rfl (k := k) (by omega) (by decide) d_Tellings_ofKind_31 ?_
        refine lv_iload_n hx hb d_Tellings_ofKind_32 rfl (lv_at hl 4 rfl) ?_
        refine lv_icmp_ne (tgt := 44) hx hb d_Tellings_ofKind_33 (by decide) (fun c_3 => ?_) (fun c_3 => ?_)
        · refine lv_iinc (v := nI (k + 1)) (lv' := [(5, .int (nI (k + 1))), (3, .long f), (0, .ref h0), (1, .int w), (2, .int kd)]) hx hb d_Tellings_ofKind_44 hl (k := 0) rfl (nI_add k 1) (by decide) rfl (fun ls hl => ?_)
          refine lv_goto (tgt := 5) hx hb d_Tellings_ofKind_47 (by decide) ?_
          refine ih5 (k + 1, f) ls (show n - (k + 1) < n - k by omega) ?_ (lv_sub hl [0, 1, 2, 3, 4] rfl)
          exact ⟨by omega, by first | (rw [bs_m, if_pos (by simp [tl_pK, c_1, c_1n, c_2, c_3]; done), ← hI]; done) | (rw [bs_m, if_neg (by simp [tl_pK, c_1, c_1n, c_2, c_3]; done), ← hI])⟩
        · refine lv_lload_n hx hb d_Tellings_ofKind_36 rfl (lv_at hl 1 rfl) ?_
          refine lv_iload hx hb d_Tellings_ofKind_37 (lv_at hl 0 rfl) ?_
          refine vp_callSl (va_Run.run (sy_runSN (As := [.int (nI k)]) (rest := [.long f]) ⟨hx, hb, hml, hown, ht⟩ cl_Tellings_38 (c_DeviceSets_bit l G k) hK trivial rfl nm_DeviceSets_bit rfl rfl ⟨Nat.le_of_ble_eq_true rfl, Nat.le_of_ble_eq_true rfl⟩ hl.1 (Nat.le_of_ble_eq_true rfl) d_Tellings_ofKind_39 ⟨Nat.zero_le _, Nat.zero_le _⟩)) (fun r_4 hr_4 => ?_)
          subst hr_4
          refine lv_lor hx hb d_Tellings_ofKind_42 ?_
          refine lv_lstore_n (lv' := [(3, .long (f ||| (bs_b k))), (5, .int (nI k)), (0, .ref h0), (1, .int w), (2, .int kd)]) hx hb d_Tellings_ofKind_43 rfl hl (by decide) rfl (fun ls hl => ?_)
          refine lv_iinc (v := nI (k + 1)) (lv' := [(5, .int (nI (k + 1))), (3, .long (f ||| (bs_b k))), (0, .ref h0), (1, .int w), (2, .int kd)]) hx hb d_Tellings_ofKind_44 hl (k := 1) rfl (nI_add k 1) (by decide) rfl (fun ls hl => ?_)
          refine lv_goto (tgt := 5) hx hb d_Tellings_ofKind_47 (by decide) ?_
          refine ih5 (k + 1, f ||| (bs_b k)) ls (show n - (k + 1) < n - k by omega) ?_ (lv_sub hl [0, 1, 2, 3, 4] rfl)
          exact ⟨by omega, by first | (rw [bs_m, if_pos (by simp [tl_pK, c_1, c_1n, c_2, c_3]; done), ← hI]; done) | (rw [bs_m, if_neg (by simp [tl_pK, c_1, c_1n, c_2, c_3]; done), ← hI])⟩
  · exact ⟨Nat.zero_le _, rfl⟩
set_option maxHeartbeats 4000000 in
set_option maxRecDepth 100000 in
theorem c_Tellings_notBelow (l : Launch) (G : sy_G) (h0 : Nat) (ad : Nat → Nat) (n : Nat) (fI : Nat → Nat → Int32) (fL : Nat → Nat → Int64) (bd : Int64) (am : Int64) (hn : n ≤ 60) : Met l y_Tellings_notBelow (sy_w y_Tellings_notBelow b_Tellings_notBelow 8 (some .long)) { frames := 2, cells := 0, slots := 0, locals := 42 } (va_Pc [.ref h0, .long bd, .long am] (sy_KP G (va_P G.1 classes (tw G.2 h0 ad n fI fL)))) (vp_Sl (fun r => r = tl_nb fL n bd am)) 0 0 (fun _ => False) := by
  refine Met.ofW (cc := b_Tellings_notBelow) (maxL := 8) (ret := (some .long)) (by decide) rfl ?_
  intro p e s m args below meth c s₁ B hml hv
  obtain ⟨rfl, hP, hK⟩ := hv
  have hx := B.exec
  have hb := B.bytes
  have hr := B.returns
  have hts := atoms_spec (ws := sy_w y_Tellings_notBelow b_Tellings_notBelow 8 (some .long)) B.pre
  have ht : ∀ wd ∈ sy_T, wd.before ([.ref h0, .long bd, .long am] : List Value).toArray s = true := fun wd h => hts wd (List.mem_cons_of_mem _ h)
  have hown : s.vm.findClass R_Tellings = some m.cls := findClass_of_methodNamed B.named
  have hlocks := B.notSynchronized
  have hl := lv_entry ([.ref h0, .long bd, .long am]) (n := 8) (Nat.le_of_ble_eq_true rfl)
  rw [lg_entry_eq]
  generalize (lg_sl ([.ref h0, .long bd, .long am]) ++ List.replicate (8 - (lg_sl ([.ref h0, .long bd, .long am])).length) Slot.unset).toArray = ls at hl ⊢
  have hl : lv_has ls 8 [(0, .ref h0), (1, .long bd), (3, .long am)] := hl
  refine lv_lconst (v := 0) hx hb d_Tellings_notBelow_0 (by decide) ?_
  refine lv_lstore (lv' := [(5, .long 0), (0, .ref h0), (1, .long bd), (3, .long am)]) hx hb d_Tellings_notBelow_1 hl (by decide) rfl (fun ls hl => ?_)
  refine lv_iconst (v := 0) hx hb d_Tellings_notBelow_3 (by decide) ?_
  refine lv_istore (lv' := [(7, .int 0), (5, .long 0), (0, .ref h0), (1, .long bd), (3, .long am)]) hx hb d_Tellings_notBelow_4 hl (by decide) rfl (fun ls hl => ?_)
  refine sy_loop (σ := Nat × Int64) (nL := 8) (fun x6 => match x6 with | (k, f) => n - k) (fun x6 => match x6 with | (k, f) => [(7, .int (nI k)), (5, .long f), (0, .ref h0), (1, .long bd), (3, .long am)]) (fun x6 => match x6 with | (k, f) => k ≤ n ∧ f = bs_m (tl_pN fL bd am) k) ?_ (0, (0 : Int64)) ?_ (lv_sub hl [0, 1, 2, 3, 4] rfl)
  · intro x6 ls hI hl ih6
    obtain ⟨k, f⟩ := x6
    have hl : lv_has ls 8 [(7, .int (nI k)), (5, .long f), (0, .ref h0), (1, .long bd), (3, .long am)] := hl
    obtain ⟨hk, hI⟩ := hI
    refine lv_iload hx hb d_Tellings_notBelow_6 (lv_at hl 0 rfl) ?_
    refine lv_aload_n hx hb d_Tellings_notBelow_8 rfl (lv_at hl 2 rfl) ?_
    refine va_get (D := G.1) (ci := 5) (v := .int (nI n)) (C := R_Tellings) (T := F_Tellings) (N := 8) hx hb ht i_Tellings hown hK.1 hP 0 rfl rfl 7 (by decide) (ht _ m_67) (fun _ h9 => h9) rfl d_Tellings_notBelow_9 ?_
    refine lv_icmp_ge (tgt := 52) hx hb d_Tellings_notBelow_12 (by decide) (fun c_1 => ?_) (fun c_1 => ?_)
    · have c_1 : n ≤ k := (nI_leI (a := n) (b := k) (by omega) (by omega)).mp c_1
      have c_1n : ¬ k < n := by omega
      refine lv_lload hx hb d_Tellings_notBelow_52 (lv_at hl 1 rfl) ?_
      exact W.lret (v := f) hx hb hr (fun t ht hW => ⟨f, rfl, by rw [hI, show k = n by omega] <;> rfl, ht⟩) (fun q h => by cases h) d_Tellings_notBelow_54
    · have c_1 : ¬ n ≤ k := fun h9 => c_1 ((nI_leI (a := n) (b := k) (by omega) (by omega)).mpr h9)
      have c_1n : k < n := by omega
      refine lv_iload hx hb d_Tellings_notBelow_15 (lv_at hl 0 rfl) ?_
      refine lv_lload_n hx hb d_Tellings_notBelow_17 rfl (lv_at hl 4 rfl) ?_
      refine vp_callSi (va_Run.run (sy_runSN (As := [.int (nI k), .long am]) (rest := []) ⟨hx, hb, hml, hown, ht⟩ cl_Tellings_42 (c_DeviceSets_isIn l G k am) hK trivial rfl nm_DeviceSets_isIn rfl rfl ⟨Nat.le_of_ble_eq_true rfl, Nat.le_of_ble_eq_true rfl⟩ hl.1 (Nat.le_of_ble_eq_true rfl) d_Tellings_notBelow_18 ⟨Nat.zero_le _, Nat.zero_le _⟩)) (fun r_2 hr_2 => ?_)
      subst hr_2
      refine lv_if_eq (tgt := 46) hx hb d_Tellings_notBelow_21 (by decide) (fun c_3 => ?_) (fun c_3 => ?_)
      · have c_3 : (bs_in am k) = false := bI_f c_3
        refine lv_iinc (v := nI (k + 1)) (lv' := [(7, .int (nI (k + 1))), (5, .long f), (0, .ref h0), (1, .long bd), (3, .long am)]) hx hb d_Tellings_notBelow_46 hl (k := 0) rfl (nI_add k 1) (by decide) rfl (fun ls hl => ?_)
        refine lv_goto (tgt := 6) hx hb d_Tellings_notBelow_49 (by decide) ?_
        refine ih6 (k + 1, f) ls (show n - (k + 1) < n - k by omega) ?_ (lv_sub hl [0, 1, 2, 3, 4] rfl)
        exact ⟨by omega, by first | (rw [bs_m, if_pos (by simp [tl_pN, c_1, c_1n, c_3]; done), ← hI]; done) | (rw [bs_m, if_neg (by simp [tl_pN, c_1, c_1n, c_3]; done), ← hI])⟩
      · have c_3 : (bs_in am k) = true := bI_t c_3
        refine lv_aload_n hx hb d_Tellings_notBelow_24 rfl (lv_at hl 2 rfl) ?_
        refine va_get (D := G.1) (ci := 5) (v := .ref (ad 4)) (C := R_Tellings) (T := F_Tellings) (N := 8) hx hb ht i_Tellings hown hK.1 hP 0 rfl rfl 4 (by decide) (ht _ m_62) (fun _ h9 => h9) rfl d_Tellings_notBelow_25 ?_
        refine lv_iload hx hb d_Tellings_notBelow_28 (lv_at hl 0 rfl) ?_
        refine sy_lald hx hb hK.1 hP 5 1 rfl rfl (k := k) (by omega) (by decide) d_Tellings_notBelow_30 ?_
        refine lv_lload_n hx hb d_Tellings_notBelow_31 rfl (lv_at hl 3 rfl) ?_
        refine sy_lc_lt (tgt := 46) hx hb d_Tellings_notBelow_32 d_Tellings_notBelow_33 (by decide) (fun c_4 => ?_) (fun c_4 => ?_)
        · have c_4n := sy_a64 c_4
          refine lv_iinc (v := nI (k + 1)) (lv' := [(7, .int (nI (k + 1))), (5, .long f), (0, .ref h0), (1, .long bd), (3, .long am)]) hx hb d_Tellings_notBelow_46 hl (k := 0) rfl (nI_add k 1) (by decide) rfl (fun ls hl => ?_)
          refine lv_goto (tgt := 6) hx hb d_Tellings_notBelow_49 (by decide) ?_
          refine ih6 (k + 1, f) ls (show n - (k + 1) < n - k by omega) ?_ (lv_sub hl [0, 1, 2, 3, 4] rfl)
          exact ⟨by omega, by first | (rw [bs_m, if_pos (by simp [tl_pN, c_1, c_1n, c_3, c_4, c_4n]; done), ← hI]; done) | (rw [bs_m, if_neg (by simp [tl_pN, c_1, c_1n, c_3, c_4, c_4n]; done), ← hI])⟩
        · have c_4n := sy_b64 c_4
          refine lv_lload hx hb d_Tellings_notBelow_36 (lv_at hl 1 rfl) ?_
          refine lv_iload hx hb d_Tellings_notBelow_38 (lv_at hl 0 rfl) ?_
          refine vp_callSl (va_Run.run (sy_runSN (As := [.int (nI k)]) (rest := [.long f]) ⟨hx, hb, hml, hown, ht⟩ cl_Tellings_38 (c_DeviceSets_bit l G k) hK trivial rfl nm_DeviceSets_bit rfl rfl ⟨Nat.le_of_ble_eq_true rfl, Nat.le_of_ble_eq_true rfl⟩ hl.1 (Nat.le_of_ble_eq_true rfl) d_Tellings_notBelow_40 ⟨Nat.zero_le _, Nat.zero_le _⟩)) (fun r_5 hr_5 => ?_)
          subst hr_5
          refine lv_lor hx hb d_Tellings_notBelow_43 ?_
          refine lv_lstore (lv' := [(5, .long (f ||| (bs_b k))), (7, .int (nI k)), (0, .ref h0), (1, .long bd), (3, .long am)]) hx hb d_Tellings_notBelow_44 hl (by decide) rfl (fun ls hl => ?_)
          refine lv_iinc (v := nI (k + 1)) (lv' := [(7, .int (nI (k + 1))), (5, .long (f ||| (bs_b k))), (0, .ref h0), (1, .long bd), (3, .long am)]) hx hb d_Tellings_notBelow_46 hl (k := 1) rfl (nI_add k 1) (by decide) rfl (fun ls hl => ?_)
          refine lv_goto (tgt := 6) hx hb d_Tellings_notBelow_49 (by decide) ?_
          refine ih6 (k + 1, f ||| (bs_b k)) ls (show n - (k + 1) < n - k by omega) ?_ (lv_sub hl [0, 1, 2, 3, 4] rfl)
          exact ⟨by omega, by first | (rw [bs_m, if_pos (by simp [tl_pN, c_1, c_1n, c_3, c_4, c_4n]; done), ← hI]; done) | (rw [bs_m, if_neg (by simp [tl_pN, c_1, c_1n, c_3, c_4, c_4n]; done), ← hI])⟩
  · exact ⟨Nat.zero_le _, rfl⟩
set_option maxHeartbeats 4000000 in
set_option maxRecDepth 100000 in
theorem c_Tellings_ofKeyOf (l : Launch) (G : sy_G) (h0 : Nat) (ad : Nat → Nat) (n : Nat) (fI : Nat → Nat → Int32) (fL : Nat → Nat → Int64) (j : Nat) (am : Int64) (hn : n ≤ 60) (hj : j < 60) : Met l y_Tellings_ofKeyOf (sy_w y_Tellings_ofKeyOf b_Tellings_ofKeyOf 7 (some .long)) { frames := 2, cells := 0, slots := 0, locals := 42 } (va_Pc [.ref h0, .int (nI j), .long am] (sy_KP G (va_P G.1 classes (tw G.2 h0 ad n fI fL)))) (vp_Sl (fun r => r = tl_key fI n j am)) 0 0 (fun _ => False) := by
  refine Met.ofW (cc := b_Tellings_ofKeyOf) (maxL := 7) (ret := (some .long)) (by decide) rfl ?_
  intro p e s m args below meth c s₁ B hml hv
  obtain ⟨rfl, hP, hK⟩ := hv
  have hx := B.exec
  have hb := B.bytes
  have hr := B.returns
  have hts := atoms_spec (ws := sy_w y_Tellings_ofKeyOf b_Tellings_ofKeyOf 7 (some .long)) B.pre
  have ht : ∀ wd ∈ sy_T, wd.before ([.ref h0, .int (nI j), .long am] : List Value).toArray s = true := fun wd h => hts wd (List.mem_cons_of_mem _ h)
  have hown : s.vm.findClass R_Tellings = some m.cls := findClass_of_methodNamed B.named
  have hlocks := B.notSynchronized
  have hl := lv_entry ([.ref h0, .int (nI j), .long am]) (n := 7) (Nat.le_of_ble_eq_true rfl)
  rw [lg_entry_eq]
  generalize (lg_sl ([.ref h0, .int (nI j), .long am]) ++ List.replicate (7 - (lg_sl ([.ref h0, .int (nI j), .long am])).length) Slot.unset).toArray = ls at hl ⊢
  have hl : lv_has ls 7 [(0, .ref h0), (1, .int (nI j)), (2, .long am)] := hl
  refine lv_lconst (v := 0) hx hb d_Tellings_ofKeyOf_0 (by decide) ?_
  refine lv_lstore (lv' := [(4, .long 0), (0, .ref h0), (1, .int (nI j)), (2, .long am)]) hx hb d_Tellings_ofKeyOf_1 hl (by decide) rfl (fun ls hl => ?_)
  refine lv_iconst (v := 0) hx hb d_Tellings_ofKeyOf_3 (by decide) ?_
  refine lv_istore (lv' := [(6, .int 0), (4, .long 0), (0, .ref h0), (1, .int (nI j)), (2, .long am)]) hx hb d_Tellings_ofKeyOf_4 hl (by decide) rfl (fun ls hl => ?_)
  refine sy_loop (σ := Nat × Int64) (nL := 7) (fun x6 => match x6 with | (k, f) => n - k) (fun x6 => match x6 with | (k, f) => [(6, .int (nI k)), (4, .long f), (0, .ref h0), (1, .int (nI j)), (2, .long am)]) (fun x6 => match x6 with | (k, f) => k ≤ n ∧ f = bs_m (tl_pS fI j am) k) ?_ (0, (0 : Int64)) ?_ (lv_sub hl [0, 1, 2, 3, 4] rfl)
  · intro x6 ls hI hl ih6
    obtain ⟨k, f⟩ := x6
    have hl : lv_has ls 7 [(6, .int (nI k)), (4, .long f), (0, .ref h0), (1, .int (nI j)), (2, .long am)] := hl
    obtain ⟨hk, hI⟩ := hI
    refine lv_iload hx hb d_Tellings_ofKeyOf_6 (lv_at hl 0 rfl) ?_
    refine lv_aload_n hx hb d_Tellings_ofKeyOf_8 rfl (lv_at hl 2 rfl) ?_
    refine va_get (D := G.1) (ci := 5) (v := .int (nI n)) (C := R_Tellings) (T := F_Tellings) (N := 8) hx hb ht i_Tellings hown hK.1 hP 0 rfl rfl 7 (by decide) (ht _ m_67) (fun _ h9 => h9) rfl d_Tellings_ofKeyOf_9 ?_
    refine lv_icmp_ge (tgt := 104) hx hb d_Tellings_ofKeyOf_12 (by decide) (fun c_1 => ?_) (fun c_1 => ?_)
    · have c_1 : n ≤ k := (nI_leI (a := n) (b := k) (by omega) (by omega)).mp c_1
      have c_1n : ¬ k < n := by omega
      refine lv_lload hx hb d_Tellings_ofKeyOf_104 (lv_at hl 1 rfl) ?_
      exact W.lret (v := f) hx hb hr (fun t ht hW => ⟨f, rfl, by rw [hI, show k = n by omega] <;> rfl, ht⟩) (fun q h => by cases h) d_Tellings_ofKeyOf_106
    · have c_1 : ¬ n ≤ k := fun h9 => c_1 ((nI_leI (a := n) (b := k) (by omega) (by omega)).mpr h9)
      have c_1n : k < n := by omega
      refine lv_iload hx hb d_Tellings_ofKeyOf_15 (lv_at hl 0 rfl) ?_
      refine lv_lload_n hx hb d_Tellings_ofKeyOf_17 rfl (lv_at hl 4 rfl) ?_
      refine vp_callSi (va_Run.run (sy_runSN (As := [.int (nI k), .long am]) (rest := []) ⟨hx, hb, hml, hown, ht⟩ cl_Tellings_42 (c_DeviceSets_isIn l G k am) hK trivial rfl nm_DeviceSets_isIn rfl rfl ⟨Nat.le_of_ble_eq_true rfl, Nat.le_of_ble_eq_true rfl⟩ hl.1 (Nat.le_of_ble_eq_true rfl) d_Tellings_ofKeyOf_18 ⟨Nat.zero_le _, Nat.zero_le _⟩)) (fun r_2 hr_2 => ?_)
      subst hr_2
      refine lv_if_eq (tgt := 98) hx hb d_Tellings_ofKeyOf_21 (by decide) (fun c_3 => ?_) (fun c_3 => ?_)
      · have c_3 : (bs_in am k) = false := bI_f c_3
        refine lv_iinc (v := nI (k + 1)) (lv' := [(6, .int (nI (k + 1))), (4, .long f), (0, .ref h0), (1, .int (nI j)), (2, .long am)]) hx hb d_Tellings_ofKeyOf_98 hl (k := 0) rfl (nI_add k 1) (by decide) rfl (fun ls hl => ?_)
        refine lv_goto (tgt := 6) hx hb d_Tellings_ofKeyOf_101 (by decide) ?_
        refine ih6 (k + 1, f) ls (show n - (k + 1) < n - k by omega) ?_ (lv_sub hl [0, 1, 2, 3, 4] rfl)
        exact ⟨by omega, by first | (rw [bs_m, if_pos (by simp [tl_pS, tl_sk, c_1, c_1n, c_3]; done), ← hI]; done) | (rw [bs_m, if_neg (by simp [tl_pS, tl_sk, c_1, c_1n, c_3]; done), ← hI])⟩
      · have c_3 : (bs_in am k) = true := bI_t c_3
        refine lv_aload_n hx hb d_Tellings_ofKeyOf_24 rfl (lv_at hl 2 rfl) ?_
        refine va_get (D := G.1) (ci := 5) (v := .ref (ad 0)) (C := R_Tellings) (T := F_Tellings) (N := 8) hx hb ht i_Tellings hown hK.1 hP 0 rfl rfl 0 (by decide) (ht _ m_58) (fun _ h9 => h9) rfl d_Tellings_ofKeyOf_25 ?_
        refine lv_iload hx hb d_Tellings_ofKeyOf_28 (lv_at hl 0 rfl) ?_
        refine sy_iald hx hb hK.1 hP 1 0 rfl rfl (k := k) (by omega) (by decide) d_Tellings_ofKeyOf_30 ?_
        refine lv_aload_n hx hb d_Tellings_ofKeyOf_31 rfl (lv_at hl 2 rfl) ?_
        refine va_get (D := G.1) (ci := 5) (v := .ref (ad 0)) (C := R_Tellings) (T := F_Tellings) (N := 8) hx hb ht i_Tellings hown hK.1 hP 0 rfl rfl 0 (by decide) (ht _ m_58) (fun _ h9 => h9) rfl d_Tellings_ofKeyOf_32 ?_
        refine lv_iload_n hx hb d_Tellings_ofKeyOf_35 rfl (lv_at hl 3 rfl) ?_
        refine sy_iald hx hb hK.1 hP 1 0 rfl rfl (k := j) (by omega) (by decide) d_Tellings_ofKeyOf_36 ?_
        refine lv_icmp_ne (tgt := 98) hx hb d_Tellings_ofKeyOf_37 (by decide) (fun c_4 => ?_) (fun c_4 => ?_)
        · refine lv_iinc (v := nI (k + 1)) (lv' := [(6, .int (nI (k + 1))), (4, .long f), (0, .ref h0), (1, .int (nI j)), (2, .long am)]) hx hb d_Tellings_ofKeyOf_98 hl (k := 0) rfl (nI_add k 1) (by decide) rfl (fun ls hl => ?_)
          refine lv_goto (tgt := 6) hx hb d_Tellings_ofKeyOf_101 (by decide) ?_
          refine ih6 (k + 1, f) ls (show n - (k + 1) < n - k by omega) ?_ (lv_sub hl [0, 1, 2, 3, 4] rfl)
          exact ⟨by omega, by first | (rw [bs_m, if_pos (by simp [tl_pS, tl_sk, c_1, c_1n, c_3, c_4]; done), ← hI]; done) | (rw [bs_m, if_neg (by simp [tl_pS, tl_sk, c_1, c_1n, c_3, c_4]; done), ← hI])⟩
        · refine lv_aload_n hx hb d_Tellings_ofKeyOf_40 rfl (lv_at hl 2 rfl) ?_
          refine va_get (D := G.1) (ci := 5) (v := .ref (ad 1)) (C := R_Tellings) (T := F_Tellings) (N := 8) hx hb ht i_Tellings hown hK.1 hP 0 rfl rfl 1 (by decide) (ht _ m_59) (fun _ h9 => h9) rfl d_Tellings_ofKeyOf_41 ?_
          refine lv_iload hx hb d_Tellings_ofKeyOf_44 (lv_at hl 0 rfl) ?_
          refine sy_iald hx hb hK.1 hP 2 0 rfl rfl (k := k) (by omega) (by decide) d_Tellings_ofKeyOf_46 ?_
          refine lv_aload_n hx hb d_Tellings_ofKeyOf_47 rfl (lv_at hl 2 rfl) ?_
          refine va_get (D := G.1) (ci := 5) (v := .ref (ad 1)) (C := R_Tellings) (T := F_Tellings) (N := 8) hx hb ht i_Tellings hown hK.1 hP 0 rfl rfl 1 (by decide) (ht _ m_59) (fun _ h9 => h9) rfl d_Tellings_ofKeyOf_48 ?_
          refine lv_iload_n hx hb d_Tellings_ofKeyOf_51 rfl (lv_at hl 3 rfl) ?_
          refine sy_iald hx hb hK.1 hP 2 0 rfl rfl (k := j) (by omega) (by decide) d_Tellings_ofKeyOf_52 ?_
          refine lv_icmp_ne (tgt := 98) hx hb d_Tellings_ofKeyOf_53 (by decide) (fun c_5 => ?_) (fun c_5 => ?_)
          · refine lv_iinc (v := nI (k + 1)) (lv' := [(6, .int (nI (k + 1))), (4, .long f), (0, .ref h0), (1, .int (nI j)), (2, .long am)]) hx hb d_Tellings_ofKeyOf_98 hl (k := 0) rfl (nI_add k 1) (by decide) rfl (fun ls hl => ?_)
            refine lv_goto (tgt := 6) hx hb d_Tellings_ofKeyOf_101 (by decide) ?_
            refine ih6 (k + 1, f) ls (show n - (k + 1) < n - k by omega) ?_ (lv_sub hl [0, 1, 2, 3, 4] rfl)
            exact ⟨by omega, by first | (rw [bs_m, if_pos (by simp [tl_pS, tl_sk, c_1, c_1n, c_3, c_4, c_5]; done), ← hI]; done) | (rw [bs_m, if_neg (by simp [tl_pS, tl_sk, c_1, c_1n, c_3, c_4, c_5]; done), ← hI])⟩
          · refine lv_aload_n hx hb d_Tellings_ofKeyOf_56 rfl (lv_at hl 2 rfl) ?_
            refine va_get (D := G.1) (ci := 5) (v := .ref (ad 2)) (C := R_Tellings) (T := F_Tellings) (N := 8) hx hb ht i_Tellings hown hK.1 hP 0 rfl rfl 2 (by decide) (ht _ m_60) (fun _ h9 => h9) rfl d_Tellings_ofKeyOf_57 ?_
            refine lv_iload hx hb d_Tellings_ofKeyOf_60 (lv_at hl 0 rfl) ?_
            refine sy_iald hx hb hK.1 hP 3 0 rfl rfl (k := k) (by omega) (by decide) d_Tellings_ofKeyOf_62 ?_
            refine lv_aload_n hx hb d_Tellings_ofKeyOf_63 rfl (lv_at hl 2 rfl) ?_
            refine va_get (D := G.1) (ci := 5) (v := .ref (ad 2)) (C := R_Tellings) (T := F_Tellings) (N := 8) hx hb ht i_Tellings hown hK.1 hP 0 rfl rfl 2 (by decide) (ht _ m_60) (fun _ h9 => h9) rfl d_Tellings_ofKeyOf_64 ?_
            refine lv_iload_n hx hb d_Tellings_ofKeyOf_67 rfl (lv_at hl 3 rfl) ?_
            refine sy_iald hx hb hK.1 hP 3 0 rfl rfl (k := j) (by omega) (by decide) d_Tellings_ofKeyOf_68 ?_
            refine lv_icmp_ne (tgt := 98) hx hb d_Tellings_ofKeyOf_69 (by decide) (fun c_6 => ?_) (fun c_6 => ?_)
            · refine lv_iinc (v := nI (k + 1)) (lv' := [(6, .int (nI (k + 1))), (4, .long f), (0, .ref h0), (1, .int (nI j)), (2, .long am)]) hx hb d_Tellings_ofKeyOf_98 hl (k := 0) rfl (nI_add k 1) (by decide) rfl (fun ls hl => ?_)
              refine lv_goto (tgt := 6) hx hb d_Tellings_ofKeyOf_101 (by decide) ?_
              refine ih6 (k + 1, f) ls (show n - (k + 1) < n - k by omega) ?_ (lv_sub hl [0, 1, 2, 3, 4] rfl)
              exact ⟨by omega, by first | (rw [bs_m, if_pos (by simp [tl_pS, tl_sk, c_1, c_1n, c_3, c_4, c_5, c_6]; done), ← hI]; done) | (rw [bs_m, if_neg (by simp [tl_pS, tl_sk, c_1, c_1n, c_3, c_4, c_5, c_6]; done), ← hI])⟩
            · refine lv_aload_n hx hb d_Tellings_ofKeyOf_72 rfl (lv_at hl 2 rfl) ?_
              refine va_get (D := G.1) (ci := 5) (v := .ref (ad 3)) (C := R_Tellings) (T := F_Tellings) (N := 8) hx hb ht i_Tellings hown hK.1 hP 0 rfl rfl 3 (by decide) (ht _ m_61) (fun _ h9 => h9) rfl d_Tellings_ofKeyOf_73 ?_
              refine lv_iload hx hb d_Tellings_ofKeyOf_76 (lv_at hl 0 rfl) ?_
              refine sy_iald hx hb hK.1 hP 4 0 rfl rfl (k := k) (by omega) (by decide) d_Tellings_ofKeyOf_78 ?_
              refine lv_aload_n hx hb d_Tellings_ofKeyOf_79 rfl (lv_at hl 2 rfl) ?_
              refine va_get (D := G.1) (ci := 5) (v := .ref (ad 3)) (C := R_Tellings) (T := F_Tellings) (N := 8) hx hb ht i_Tellings hown hK.1 hP 0 rfl rfl 3 (by decide) (ht _ m_61) (fun _ h9 => h9) rfl d_Tellings_ofKeyOf_80 ?_
              refine lv_iload_n hx hb d_Tellings_ofKeyOf_83 rfl (lv_at hl 3 rfl) ?_
              refine sy_iald hx hb hK.1 hP 4 0 rfl rfl (k := j) (by omega) (by decide) d_Tellings_ofKeyOf_84 ?_
              refine lv_icmp_ne (tgt := 98) hx hb d_Tellings_ofKeyOf_85 (by decide) (fun c_7 => ?_) (fun c_7 => ?_)
              · refine lv_iinc (v := nI (k + 1)) (lv' := [(6, .int (nI (k + 1))), (4, .long f), (0, .ref h0), (1, .int (nI j)), (2, .long am)]) hx hb d_Tellings_ofKeyOf_98 hl (k := 0) rfl (nI_add k 1) (by decide) rfl (fun ls hl => ?_)
                refine lv_goto (tgt := 6) hx hb d_Tellings_ofKeyOf_101 (by decide) ?_
                refine ih6 (k + 1, f) ls (show n - (k + 1) < n - k by omega) ?_ (lv_sub hl [0, 1, 2, 3, 4] rfl)
                exact ⟨by omega, by first | (rw [bs_m, if_pos (by simp [tl_pS, tl_sk, c_1, c_1n, c_3, c_4, c_5, c_6, c_7]; done), ← hI]; done) | (rw [bs_m, if_neg (by simp [tl_pS, tl_sk, c_1, c_1n, c_3, c_4, c_5, c_6, c_7]; done), ← hI])⟩
              · refine lv_lload hx hb d_Tellings_ofKeyOf_88 (lv_at hl 1 rfl) ?_
                refine lv_iload hx hb d_Tellings_ofKeyOf_90 (lv_at hl 0 rfl) ?_
                refine vp_callSl (va_Run.run (sy_runSN (As := [.int (nI k)]) (rest := [.long f]) ⟨hx, hb, hml, hown, ht⟩ cl_Tellings_38 (c_DeviceSets_bit l G k) hK trivial rfl nm_DeviceSets_bit rfl rfl ⟨Nat.le_of_ble_eq_true rfl, Nat.le_of_ble_eq_true rfl⟩ hl.1 (Nat.le_of_ble_eq_true rfl) d_Tellings_ofKeyOf_92 ⟨Nat.zero_le _, Nat.zero_le _⟩)) (fun r_8 hr_8 => ?_)
                subst hr_8
                refine lv_lor hx hb d_Tellings_ofKeyOf_95 ?_
                refine lv_lstore (lv' := [(4, .long (f ||| (bs_b k))), (6, .int (nI k)), (0, .ref h0), (1, .int (nI j)), (2, .long am)]) hx hb d_Tellings_ofKeyOf_96 hl (by decide) rfl (fun ls hl => ?_)
                refine lv_iinc (v := nI (k + 1)) (lv' := [(6, .int (nI (k + 1))), (4, .long (f ||| (bs_b k))), (0, .ref h0), (1, .int (nI j)), (2, .long am)]) hx hb d_Tellings_ofKeyOf_98 hl (k := 1) rfl (nI_add k 1) (by decide) rfl (fun ls hl => ?_)
                refine lv_goto (tgt := 6) hx hb d_Tellings_ofKeyOf_101 (by decide) ?_
                refine ih6 (k + 1, f ||| (bs_b k)) ls (show n - (k + 1) < n - k by omega) ?_ (lv_sub hl [0, 1, 2, 3, 4] rfl)
                exact ⟨by omega, by first | (rw [bs_m, if_pos (by simp [tl_pS, tl_sk, c_1, c_1n, c_3, c_4, c_5, c_6, c_7]; done), ← hI]; done) | (rw [bs_m, if_neg (by simp [tl_pS, tl_sk, c_1, c_1n, c_3, c_4, c_5, c_6, c_7]; done), ← hI])⟩
  · exact ⟨Nat.zero_le _, rfl⟩
set_option maxHeartbeats 4000000 in
set_option maxRecDepth 100000 in
theorem c_Tellings_isOfLater (l : Launch) (G : sy_G) (h0 : Nat) (ad : Nat → Nat) (n : Nat) (fI : Nat → Nat → Int32) (fL : Nat → Nat → Int64) (a : Nat) (b : Nat) (ha : a < 60) (hb2 : b < 60) : Met l y_Tellings_isOfLater (sy_w y_Tellings_isOfLater b_Tellings_isOfLater 3 (some .boolean)) { frames := 1, cells := 0, slots := 0, locals := 22 } (va_Pc [.ref h0, .int (nI a), .int (nI b)] (sy_KP G (va_P G.1 classes (tw G.2 h0 ad n fI fL)))) (vp_Si (fun r => r = bI (tl_lt fI fL a b))) 0 0 (fun _ => False) := by
  refine Met.ofW (cc := b_Tellings_isOfLater) (maxL := 3) (ret := (some .boolean)) (by decide) rfl ?_
  intro p e s m args below meth c s₁ B hml hv
  obtain ⟨rfl, hP, hK⟩ := hv
  have hx := B.exec
  have hb := B.bytes
  have hr := B.returns
  have hts := atoms_spec (ws := sy_w y_Tellings_isOfLater b_Tellings_isOfLater 3 (some .boolean)) B.pre
  have ht : ∀ wd ∈ sy_T, wd.before ([.ref h0, .int (nI a), .int (nI b)] : List Value).toArray s = true := fun wd h => hts wd (List.mem_cons_of_mem _ h)
  have hown : s.vm.findClass R_Tellings = some m.cls := findClass_of_methodNamed B.named
  have hlocks := B.notSynchronized
  have hl := lv_entry ([.ref h0, .int (nI a), .int (nI b)]) (n := 3) (Nat.le_of_ble_eq_true rfl)
  rw [lg_entry_eq]
  generalize (lg_sl ([.ref h0, .int (nI a), .int (nI b)]) ++ List.replicate (3 - (lg_sl ([.ref h0, .int (nI a), .int (nI b)])).length) Slot.unset).toArray = ls at hl ⊢
  have hl : lv_has ls 3 [(0, .ref h0), (1, .int (nI a)), (2, .int (nI b))] := hl
  refine lv_aload_n hx hb d_Tellings_isOfLater_0 rfl (lv_at hl 0 rfl) ?_
  refine va_get (D := G.1) (ci := 5) (v := .ref (ad 4)) (C := R_Tellings) (T := F_Tellings) (N := 8) hx hb ht i_Tellings hown hK.1 hP 0 rfl rfl 4 (by decide) (ht _ m_62) (fun _ h9 => h9) rfl d_Tellings_isOfLater_1 ?_
  refine lv_iload_n hx hb d_Tellings_isOfLater_4 rfl (lv_at hl 1 rfl) ?_
  refine sy_lald hx hb hK.1 hP 5 1 rfl rfl (k := a) (by omega) (by decide) d_Tellings_isOfLater_5 ?_
  refine lv_aload_n hx hb d_Tellings_isOfLater_6 rfl (lv_at hl 0 rfl) ?_
  refine va_get (D := G.1) (ci := 5) (v := .ref (ad 4)) (C := R_Tellings) (T := F_Tellings) (N := 8) hx hb ht i_Tellings hown hK.1 hP 0 rfl rfl 4 (by decide) (ht _ m_62) (fun _ h9 => h9) rfl d_Tellings_isOfLater_7 ?_
  refine lv_iload_n hx hb d_Tellings_isOfLater_10 rfl (lv_at hl 2 rfl) ?_
  refine sy_lald hx hb hK.1 hP 5 1 rfl rfl (k := b) (by omega) (by decide) d_Tellings_isOfLater_11 ?_
  refine sy_lc_eq (tgt := 40) hx hb d_Tellings_isOfLater_12 d_Tellings_isOfLater_13 (by decide) (fun c_1 => ?_) (fun c_1 => ?_)
  · refine lv_aload_n hx hb d_Tellings_isOfLater_40 rfl (lv_at hl 0 rfl) ?_
    refine lv_iload_n hx hb d_Tellings_isOfLater_41 rfl (lv_at hl 2 rfl) ?_
    refine lv_iload_n hx hb d_Tellings_isOfLater_42 rfl (lv_at hl 1 rfl) ?_
    refine vp_callSi (va_Run.run (sy_runV (As := [.int (nI b), .int (nI a)]) (rest := []) (b := h0) ⟨hx, hb, hml, hown, ht⟩ cl_Tellings_56 (c_Tellings_isBefore l G h0 ad n fI fL b a (by omega) (by omega)) hK hP (va_recv hK.1 hP (ci := 5) (q0 := 0) rfl rfl) rfl nm_Tellings_isBefore rfl rfl ⟨Nat.le_of_ble_eq_true rfl, Nat.le_of_ble_eq_true rfl⟩ hl.1 (Nat.le_of_ble_eq_true rfl) d_Tellings_isOfLater_43 ⟨Nat.zero_le _, Nat.zero_le _⟩)) (fun r_2 hr_2 => ?_)
    subst hr_2
    exact W.zret (v := bI (tl_bf fI fL b a)) hx hb hr (bI_n _) (fun t ht hW => ⟨bI (tl_bf fI fL b a), rfl, by simp [bI, tl_lt, c_1], ht⟩) (fun q h => by cases h) d_Tellings_isOfLater_46
  · refine lv_aload_n hx hb d_Tellings_isOfLater_16 rfl (lv_at hl 0 rfl) ?_
    refine va_get (D := G.1) (ci := 5) (v := .ref (ad 4)) (C := R_Tellings) (T := F_Tellings) (N := 8) hx hb ht i_Tellings hown hK.1 hP 0 rfl rfl 4 (by decide) (ht _ m_62) (fun _ h9 => h9) rfl d_Tellings_isOfLater_17 ?_
    refine lv_iload_n hx hb d_Tellings_isOfLater_20 rfl (lv_at hl 1 rfl) ?_
    refine sy_lald hx hb hK.1 hP 5 1 rfl rfl (k := a) (by omega) (by decide) d_Tellings_isOfLater_21 ?_
    refine lv_aload_n hx hb d_Tellings_isOfLater_22 rfl (lv_at hl 0 rfl) ?_
    refine va_get (D := G.1) (ci := 5) (v := .ref (ad 4)) (C := R_Tellings) (T := F_Tellings) (N := 8) hx hb ht i_Tellings hown hK.1 hP 0 rfl rfl 4 (by decide) (ht _ m_62) (fun _ h9 => h9) rfl d_Tellings_isOfLater_23 ?_
    refine lv_iload_n hx hb d_Tellings_isOfLater_26 rfl (lv_at hl 2 rfl) ?_
    refine sy_lald hx hb hK.1 hP 5 1 rfl rfl (k := b) (by omega) (by decide) d_Tellings_isOfLater_27 ?_
    refine sy_lc_le (tgt := 36) hx hb d_Tellings_isOfLater_28 d_Tellings_isOfLater_29 (by decide) (fun c_3 => ?_) (fun c_3 => ?_)
    · have c_3n := sy_c64 c_3
      refine lv_iconst (v := 0) hx hb d_Tellings_isOfLater_36 (by decide) ?_
      refine lv_goto (tgt := 46) hx hb d_Tellings_isOfLater_37 (by decide) ?_
      exact W.zret (v := (0 : Int32)) hx hb hr (rfl) (fun t ht hW => ⟨(0 : Int32), rfl, by simp [bI, tl_lt, c_1, c_3, c_3n], ht⟩) (fun q h => by cases h) d_Tellings_isOfLater_46
    · have c_3n := sy_d64 c_3
      refine lv_iconst (v := 1) hx hb d_Tellings_isOfLater_32 (by decide) ?_
      refine lv_goto (tgt := 46) hx hb d_Tellings_isOfLater_33 (by decide) ?_
      exact W.zret (v := (1 : Int32)) hx hb hr (rfl) (fun t ht hW => ⟨(1 : Int32), rfl, by simp [bI, tl_lt, c_1, c_3, c_3n], ht⟩) (fun q h => by cases h) d_Tellings_isOfLater_46
set_option maxHeartbeats 4000000 in
set_option maxRecDepth 100000 in
theorem c_Tellings_first (l : Launch) (G : sy_G) (h0 : Nat) (ad : Nat → Nat) (n : Nat) (fI : Nat → Nat → Int32) (fL : Nat → Nat → Int64) (am : Int64) (hn : n ≤ 60) : Met l y_Tellings_first (sy_w y_Tellings_first b_Tellings_first 5 (some .int)) { frames := 2, cells := 0, slots := 0, locals := 42 } (va_Pc [.ref h0, .long am] (sy_KP G (va_P G.1 classes (tw G.2 h0 ad n fI fL)))) (vp_Si (fun r => r = oI (tl_first fI fL n am))) 0 0 (fun _ => False) := by
  refine Met.ofW (cc := b_Tellings_first) (maxL := 5) (ret := (some .int)) (by decide) rfl ?_
  intro p e s m args below meth c s₁ B hml hv
  obtain ⟨rfl, hP, hK⟩ := hv
  have hx := B.exec
  have hb := B.bytes
  have hr := B.returns
  have hts := atoms_spec (ws := sy_w y_Tellings_first b_Tellings_first 5 (some .int)) B.pre
  have ht : ∀ wd ∈ sy_T, wd.before ([.ref h0, .long am] : List Value).toArray s = true := fun wd h => hts wd (List.mem_cons_of_mem _ h)
  have hown : s.vm.findClass R_Tellings = some m.cls := findClass_of_methodNamed B.named
  have hlocks := B.notSynchronized
  have hl := lv_entry ([.ref h0, .long am]) (n := 5) (Nat.le_of_ble_eq_true rfl)
  rw [lg_entry_eq]
  generalize (lg_sl ([.ref h0, .long am]) ++ List.replicate (5 - (lg_sl ([.ref h0, .long am])).length) Slot.unset).toArray = ls at hl ⊢
  have hl : lv_has ls 5 [(0, .ref h0), (1, .long am)] := hl
  refine lv_iconst (v := (-1)) hx hb d_Tellings_first_0 (by decide) ?_
  refine lv_istore_n (lv' := [(3, .int (-1)), (0, .ref h0), (1, .long am)]) hx hb d_Tellings_first_1 rfl hl (by decide) rfl (fun ls hl => ?_)
  refine lv_iconst (v := 0) hx hb d_Tellings_first_2 (by decide) ?_
  refine lv_istore (lv' := [(4, .int 0), (3, .int (-1)), (0, .ref h0), (1, .long am)]) hx hb d_Tellings_first_3 hl (by decide) rfl (fun ls hl => ?_)
  refine sy_loop (σ := Nat × Option Nat) (nL := 5) (fun x5 => match x5 with | (k, o) => n - k) (fun x5 => match x5 with | (k, o) => [(4, .int (nI k)), (3, .int (oI o)), (0, .ref h0), (1, .long am)]) (fun x5 => match x5 with | (k, o) => k ≤ n ∧ o = nn_fm (bs_in am) (tl_bf fI fL) k) ?_ (0, none) ?_ (lv_sub hl [0, 1, 2, 3] rfl)
  · intro x5 ls hI hl ih5
    obtain ⟨k, o⟩ := x5
    have hl : lv_has ls 5 [(4, .int (nI k)), (3, .int (oI o)), (0, .ref h0), (1, .long am)] := hl
    obtain ⟨hk, hI⟩ := hI
    refine lv_iload hx hb d_Tellings_first_5 (lv_at hl 0 rfl) ?_
    refine lv_aload_n hx hb d_Tellings_first_7 rfl (lv_at hl 2 rfl) ?_
    refine va_get (D := G.1) (ci := 5) (v := .int (nI n)) (C := R_Tellings) (T := F_Tellings) (N := 8) hx hb ht i_Tellings hown hK.1 hP 0 rfl rfl 7 (by decide) (ht _ m_67) (fun _ h9 => h9) rfl d_Tellings_first_8 ?_
    refine lv_icmp_ge (tgt := 47) hx hb d_Tellings_first_11 (by decide) (fun c_1 => ?_) (fun c_1 => ?_)
    · have c_1 : n ≤ k := (nI_leI (a := n) (b := k) (by omega) (by omega)).mp c_1
      have c_1n : ¬ k < n := by omega
      refine lv_iload_n hx hb d_Tellings_first_47 rfl (lv_at hl 1 rfl) ?_
      exact W.iret (v := oI o) hx hb hr (fun t ht hW => ⟨oI o, rfl, by rw [hI, show k = n by omega] <;> rfl, ht⟩) (fun q h => by cases h) d_Tellings_first_48
    · have c_1 : ¬ n ≤ k := fun h9 => c_1 ((nI_leI (a := n) (b := k) (by omega) (by omega)).mpr h9)
      have c_1n : k < n := by omega
      refine lv_iload hx hb d_Tellings_first_14 (lv_at hl 0 rfl) ?_
      refine lv_lload_n hx hb d_Tellings_first_16 rfl (lv_at hl 3 rfl) ?_
      refine vp_callSi (va_Run.run (sy_runSN (As := [.int (nI k), .long am]) (rest := []) ⟨hx, hb, hml, hown, ht⟩ cl_Tellings_42 (c_DeviceSets_isIn l G k am) hK trivial rfl nm_DeviceSets_isIn rfl rfl ⟨Nat.le_of_ble_eq_true rfl, Nat.le_of_ble_eq_true rfl⟩ hl.1 (Nat.le_of_ble_eq_true rfl) d_Tellings_first_17 ⟨Nat.zero_le _, Nat.zero_le _⟩)) (fun r_2 hr_2 => ?_)
      subst hr_2
      refine lv_if_eq (tgt := 41) hx hb d_Tellings_first_20 (by decide) (fun c_3 => ?_) (fun c_3 => ?_)
      · have c_3 : (bs_in am k) = false := bI_f c_3
        refine lv_iinc (v := nI (k + 1)) (lv' := [(4, .int (nI (k + 1))), (3, .int (oI o)), (0, .ref h0), (1, .long am)]) hx hb d_Tellings_first_41 hl (k := 0) rfl (nI_add k 1) (by decide) rfl (fun ls hl => ?_)
        refine lv_goto (tgt := 5) hx hb d_Tellings_first_44 (by decide) ?_
        refine ih5 (k + 1, o) ls (show n - (k + 1) < n - k by omega) ?_ (lv_sub hl [0, 1, 2, 3] rfl)
        exact ⟨by omega, by first | (rw [nn_fm, if_pos (by simp [c_1, c_1n, c_3]; done), ← hI]; simp [nn_up, c_1, c_1n, c_3]; done) | (rw [nn_fm, if_neg (by simp [c_1, c_1n, c_3]; done), ← hI])⟩
      · have c_3 : (bs_in am k) = true := bI_t c_3
        refine lv_iload_n hx hb d_Tellings_first_23 rfl (lv_at hl 1 rfl) ?_
        refine lv_iconst (v := (-1)) hx hb d_Tellings_first_24 (by decide) ?_
        rcases o with _ | j_5
        · have hl : lv_has ls 5 [(4, .int (nI k)), (3, .int (-1)), (0, .ref h0), (1, .long am)] := hl
          refine lv_icmp_eq (tgt := 38) hx hb d_Tellings_first_25 (by decide) (fun c_6 => ?_) (fun c_6 => absurd (by decide) c_6)
          refine lv_iload hx hb d_Tellings_first_38 (lv_at hl 0 rfl) ?_
          refine lv_istore_n (lv' := [(3, .int (nI k)), (4, .int (nI k)), (0, .ref h0), (1, .long am)]) hx hb d_Tellings_first_40 rfl hl (by decide) rfl (fun ls hl => ?_)
          refine lv_iinc (v := nI (k + 1)) (lv' := [(4, .int (nI (k + 1))), (3, .int (nI k)), (0, .ref h0), (1, .long am)]) hx hb d_Tellings_first_41 hl (k := 1) rfl (nI_add k 1) (by decide) rfl (fun ls hl => ?_)
          refine lv_goto (tgt := 5) hx hb d_Tellings_first_44 (by decide) ?_
          refine ih5 (k + 1, (some k)) ls (show n - (k + 1) < n - k by omega) ?_ (lv_sub hl [0, 1, 2, 3] rfl)
          exact ⟨by omega, by first | (rw [nn_fm, if_pos (by simp [c_1, c_1n, c_3, c_6]; done), ← hI]; simp [nn_up, c_1, c_1n, c_3, c_6]; done) | (rw [nn_fm, if_neg (by simp [c_1, c_1n, c_3, c_6]; done), ← hI])⟩
        · have hl : lv_has ls 5 [(4, .int (nI k)), (3, .int (nI j_5)), (0, .ref h0), (1, .long am)] := hl
          have hj_5 : j_5 < k := nn_fm_lt hI.symm
          refine lv_icmp_eq (tgt := 38) hx hb d_Tellings_first_25 (by decide) (fun c_7 => absurd c_7 (oI_ne (by omega))) (fun c_7 => ?_)
          refine lv_aload_n hx hb d_Tellings_first_28 rfl (lv_at hl 2 rfl) ?_
          refine lv_iload hx hb d_Tellings_first_29 (lv_at hl 0 rfl) ?_
          refine lv_iload_n hx hb d_Tellings_first_31 rfl (lv_at hl 1 rfl) ?_
          refine vp_callSi (va_Run.run (sy_runV (As := [.int (nI k), .int (nI j_5)]) (rest := []) (b := h0) ⟨hx, hb, hml, hown, ht⟩ cl_Tellings_56 (c_Tellings_isBefore l G h0 ad n fI fL k j_5 (by omega) (by omega)) hK hP (va_recv hK.1 hP (ci := 5) (q0 := 0) rfl rfl) rfl nm_Tellings_isBefore rfl rfl ⟨Nat.le_of_ble_eq_true rfl, Nat.le_of_ble_eq_true rfl⟩ hl.1 (Nat.le_of_ble_eq_true rfl) d_Tellings_first_32 ⟨Nat.zero_le _, Nat.zero_le _⟩)) (fun r_8 hr_8 => ?_)
          subst hr_8
          refine lv_if_eq (tgt := 41) hx hb d_Tellings_first_35 (by decide) (fun c_9 => ?_) (fun c_9 => ?_)
          · have c_9 : (tl_bf fI fL k j_5) = false := bI_f c_9
            refine lv_iinc (v := nI (k + 1)) (lv' := [(4, .int (nI (k + 1))), (3, .int (nI j_5)), (0, .ref h0), (1, .long am)]) hx hb d_Tellings_first_41 hl (k := 0) rfl (nI_add k 1) (by decide) rfl (fun ls hl => ?_)
            refine lv_goto (tgt := 5) hx hb d_Tellings_first_44 (by decide) ?_
            refine ih5 (k + 1, (some j_5)) ls (show n - (k + 1) < n - k by omega) ?_ (lv_sub hl [0, 1, 2, 3] rfl)
            exact ⟨by omega, by first | (rw [nn_fm, if_pos (by simp [c_1, c_1n, c_3, c_7, c_9]; done), ← hI]; simp [nn_up, c_1, c_1n, c_3, c_7, c_9]; done) | (rw [nn_fm, if_neg (by simp [c_1, c_1n, c_3, c_7, c_9]; done), ← hI])⟩
          · have c_9 : (tl_bf fI fL k j_5) = true := bI_t c_9
            refine lv_iload hx hb d_Tellings_first_38 (lv_at hl 0 rfl) ?_
            refine lv_istore_n (lv' := [(3, .int (nI k)), (4, .int (nI k)), (0, .ref h0), (1, .long am)]) hx hb d_Tellings_first_40 rfl hl (by decide) rfl (fun ls hl => ?_)
            refine lv_iinc (v := nI (k + 1)) (lv' := [(4, .int (nI (k + 1))), (3, .int (nI k)), (0, .ref h0), (1, .long am)]) hx hb d_Tellings_first_41 hl (k := 1) rfl (nI_add k 1) (by decide) rfl (fun ls hl => ?_)
            refine lv_goto (tgt := 5) hx hb d_Tellings_first_44 (by decide) ?_
            refine ih5 (k + 1, (some k)) ls (show n - (k + 1) < n - k by omega) ?_ (lv_sub hl [0, 1, 2, 3] rfl)
            exact ⟨by omega, by first | (rw [nn_fm, if_pos (by simp [c_1, c_1n, c_3, c_7, c_9]; done), ← hI]; simp [nn_up, c_1, c_1n, c_3, c_7, c_9]; done) | (rw [nn_fm, if_neg (by simp [c_1, c_1n, c_3, c_7, c_9]; done), ← hI])⟩
  · exact ⟨Nat.zero_le _, rfl⟩
set_option maxHeartbeats 4000000 in
set_option maxRecDepth 100000 in
theorem c_Tellings_latestNumbered (l : Launch) (G : sy_G) (h0 : Nat) (ad : Nat → Nat) (n : Nat) (fI : Nat → Nat → Int32) (fL : Nat → Nat → Int64) (am : Int64) (hn : n ≤ 60) : Met l y_Tellings_latestNumbered (sy_w y_Tellings_latestNumbered b_Tellings_latestNumbered 5 (some .int)) { frames := 2, cells := 0, slots := 0, locals := 42 } (va_Pc [.ref h0, .long am] (sy_KP G (va_P G.1 classes (tw G.2 h0 ad n fI fL)))) (vp_Si (fun r => r = oI (tl_ln fI fL n am))) 0 0 (fun _ => False) := by
  refine Met.ofW (cc := b_Tellings_latestNumbered) (maxL := 5) (ret := (some .int)) (by decide) rfl ?_
  intro p e s m args below meth c s₁ B hml hv
  obtain ⟨rfl, hP, hK⟩ := hv
  have hx := B.exec
  have hb := B.bytes
  have hr := B.returns
  have hts := atoms_spec (ws := sy_w y_Tellings_latestNumbered b_Tellings_latestNumbered 5 (some .int)) B.pre
  have ht : ∀ wd ∈ sy_T, wd.before ([.ref h0, .long am] : List Value).toArray s = true := fun wd h => hts wd (List.mem_cons_of_mem _ h)
  have hown : s.vm.findClass R_Tellings = some m.cls := findClass_of_methodNamed B.named
  have hlocks := B.notSynchronized
  have hl := lv_entry ([.ref h0, .long am]) (n := 5) (Nat.le_of_ble_eq_true rfl)
  rw [lg_entry_eq]
  generalize (lg_sl ([.ref h0, .long am]) ++ List.replicate (5 - (lg_sl ([.ref h0, .long am])).length) Slot.unset).toArray = ls at hl ⊢
  have hl : lv_has ls 5 [(0, .ref h0), (1, .long am)] := hl
  refine lv_iconst (v := (-1)) hx hb d_Tellings_latestNumbered_0 (by decide) ?_
  refine lv_istore_n (lv' := [(3, .int (-1)), (0, .ref h0), (1, .long am)]) hx hb d_Tellings_latestNumbered_1 rfl hl (by decide) rfl (fun ls hl => ?_)
  refine lv_iconst (v := 0) hx hb d_Tellings_latestNumbered_2 (by decide) ?_
  refine lv_istore (lv' := [(4, .int 0), (3, .int (-1)), (0, .ref h0), (1, .long am)]) hx hb d_Tellings_latestNumbered_3 hl (by decide) rfl (fun ls hl => ?_)
  refine sy_loop (σ := Nat × Option Nat) (nL := 5) (fun x5 => match x5 with | (k, o) => n - k) (fun x5 => match x5 with | (k, o) => [(4, .int (nI k)), (3, .int (oI o)), (0, .ref h0), (1, .long am)]) (fun x5 => match x5 with | (k, o) => k ≤ n ∧ o = nn_fm (bs_in am) (tl_fb fI fL) k) ?_ (0, none) ?_ (lv_sub hl [0, 1, 2, 3] rfl)
  · intro x5 ls hI hl ih5
    obtain ⟨k, o⟩ := x5
    have hl : lv_has ls 5 [(4, .int (nI k)), (3, .int (oI o)), (0, .ref h0), (1, .long am)] := hl
    obtain ⟨hk, hI⟩ := hI
    refine lv_iload hx hb d_Tellings_latestNumbered_5 (lv_at hl 0 rfl) ?_
    refine lv_aload_n hx hb d_Tellings_latestNumbered_7 rfl (lv_at hl 2 rfl) ?_
    refine va_get (D := G.1) (ci := 5) (v := .int (nI n)) (C := R_Tellings) (T := F_Tellings) (N := 8) hx hb ht i_Tellings hown hK.1 hP 0 rfl rfl 7 (by decide) (ht _ m_67) (fun _ h9 => h9) rfl d_Tellings_latestNumbered_8 ?_
    refine lv_icmp_ge (tgt := 47) hx hb d_Tellings_latestNumbered_11 (by decide) (fun c_1 => ?_) (fun c_1 => ?_)
    · have c_1 : n ≤ k := (nI_leI (a := n) (b := k) (by omega) (by omega)).mp c_1
      have c_1n : ¬ k < n := by omega
      refine lv_iload_n hx hb d_Tellings_latestNumbered_47 rfl (lv_at hl 1 rfl) ?_
      exact W.iret (v := oI o) hx hb hr (fun t ht hW => ⟨oI o, rfl, by rw [hI, show k = n by omega] <;> rfl, ht⟩) (fun q h => by cases h) d_Tellings_latestNumbered_48
    · have c_1 : ¬ n ≤ k := fun h9 => c_1 ((nI_leI (a := n) (b := k) (by omega) (by omega)).mpr h9)
      have c_1n : k < n := by omega
      refine lv_iload hx hb d_Tellings_latestNumbered_14 (lv_at hl 0 rfl) ?_
      refine lv_lload_n hx hb d_Tellings_latestNumbered_16 rfl (lv_at hl 3 rfl) ?_
      refine vp_callSi (va_Run.run (sy_runSN (As := [.int (nI k), .long am]) (rest := []) ⟨hx, hb, hml, hown, ht⟩ cl_Tellings_42 (c_DeviceSets_isIn l G k am) hK trivial rfl nm_DeviceSets_isIn rfl rfl ⟨Nat.le_of_ble_eq_true rfl, Nat.le_of_ble_eq_true rfl⟩ hl.1 (Nat.le_of_ble_eq_true rfl) d_Tellings_latestNumbered_17 ⟨Nat.zero_le _, Nat.zero_le _⟩)) (fun r_2 hr_2 => ?_)
      subst hr_2
      refine lv_if_eq (tgt := 41) hx hb d_Tellings_latestNumbered_20 (by decide) (fun c_3 => ?_) (fun c_3 => ?_)
      · have c_3 : (bs_in am k) = false := bI_f c_3
        refine lv_iinc (v := nI (k + 1)) (lv' := [(4, .int (nI (k + 1))), (3, .int (oI o)), (0, .ref h0), (1, .long am)]) hx hb d_Tellings_latestNumbered_41 hl (k := 0) rfl (nI_add k 1) (by decide) rfl (fun ls hl => ?_)
        refine lv_goto (tgt := 5) hx hb d_Tellings_latestNumbered_44 (by decide) ?_
        refine ih5 (k + 1, o) ls (show n - (k + 1) < n - k by omega) ?_ (lv_sub hl [0, 1, 2, 3] rfl)
        exact ⟨by omega, by first | (rw [nn_fm, if_pos (by simp [tl_fb, c_1, c_1n, c_3]; done), ← hI]; simp [nn_up, tl_fb, c_1, c_1n, c_3]; done) | (rw [nn_fm, if_neg (by simp [tl_fb, c_1, c_1n, c_3]; done), ← hI])⟩
      · have c_3 : (bs_in am k) = true := bI_t c_3
        refine lv_iload_n hx hb d_Tellings_latestNumbered_23 rfl (lv_at hl 1 rfl) ?_
        refine lv_iconst (v := (-1)) hx hb d_Tellings_latestNumbered_24 (by decide) ?_
        rcases o with _ | j_5
        · have hl : lv_has ls 5 [(4, .int (nI k)), (3, .int (-1)), (0, .ref h0), (1, .long am)] := hl
          refine lv_icmp_eq (tgt := 38) hx hb d_Tellings_latestNumbered_25 (by decide) (fun c_6 => ?_) (fun c_6 => absurd (by decide) c_6)
          refine lv_iload hx hb d_Tellings_latestNumbered_38 (lv_at hl 0 rfl) ?_
          refine lv_istore_n (lv' := [(3, .int (nI k)), (4, .int (nI k)), (0, .ref h0), (1, .long am)]) hx hb d_Tellings_latestNumbered_40 rfl hl (by decide) rfl (fun ls hl => ?_)
          refine lv_iinc (v := nI (k + 1)) (lv' := [(4, .int (nI (k + 1))), (3, .int (nI k)), (0, .ref h0), (1, .long am)]) hx hb d_Tellings_latestNumbered_41 hl (k := 1) rfl (nI_add k 1) (by decide) rfl (fun ls hl => ?_)
          refine lv_goto (tgt := 5) hx hb d_Tellings_latestNumbered_44 (by decide) ?_
          refine ih5 (k + 1, (some k)) ls (show n - (k + 1) < n - k by omega) ?_ (lv_sub hl [0, 1, 2, 3] rfl)
          exact ⟨by omega, by first | (rw [nn_fm, if_pos (by simp [tl_fb, c_1, c_1n, c_3, c_6]; done), ← hI]; simp [nn_up, tl_fb, c_1, c_1n, c_3, c_6]; done) | (rw [nn_fm, if_neg (by simp [tl_fb, c_1, c_1n, c_3, c_6]; done), ← hI])⟩
        · have hl : lv_has ls 5 [(4, .int (nI k)), (3, .int (nI j_5)), (0, .ref h0), (1, .long am)] := hl
          have hj_5 : j_5 < k := nn_fm_lt hI.symm
          refine lv_icmp_eq (tgt := 38) hx hb d_Tellings_latestNumbered_25 (by decide) (fun c_7 => absurd c_7 (oI_ne (by omega))) (fun c_7 => ?_)
          refine lv_aload_n hx hb d_Tellings_latestNumbered_28 rfl (lv_at hl 2 rfl) ?_
          refine lv_iload_n hx hb d_Tellings_latestNumbered_29 rfl (lv_at hl 1 rfl) ?_
          refine lv_iload hx hb d_Tellings_latestNumbered_30 (lv_at hl 0 rfl) ?_
          refine vp_callSi (va_Run.run (sy_runV (As := [.int (nI j_5), .int (nI k)]) (rest := []) (b := h0) ⟨hx, hb, hml, hown, ht⟩ cl_Tellings_56 (c_Tellings_isBefore l G h0 ad n fI fL j_5 k (by omega) (by omega)) hK hP (va_recv hK.1 hP (ci := 5) (q0 := 0) rfl rfl) rfl nm_Tellings_isBefore rfl rfl ⟨Nat.le_of_ble_eq_true rfl, Nat.le_of_ble_eq_true rfl⟩ hl.1 (Nat.le_of_ble_eq_true rfl) d_Tellings_latestNumbered_32 ⟨Nat.zero_le _, Nat.zero_le _⟩)) (fun r_8 hr_8 => ?_)
          subst hr_8
          refine lv_if_eq (tgt := 41) hx hb d_Tellings_latestNumbered_35 (by decide) (fun c_9 => ?_) (fun c_9 => ?_)
          · have c_9 : (tl_bf fI fL j_5 k) = false := bI_f c_9
            refine lv_iinc (v := nI (k + 1)) (lv' := [(4, .int (nI (k + 1))), (3, .int (nI j_5)), (0, .ref h0), (1, .long am)]) hx hb d_Tellings_latestNumbered_41 hl (k := 0) rfl (nI_add k 1) (by decide) rfl (fun ls hl => ?_)
            refine lv_goto (tgt := 5) hx hb d_Tellings_latestNumbered_44 (by decide) ?_
            refine ih5 (k + 1, (some j_5)) ls (show n - (k + 1) < n - k by omega) ?_ (lv_sub hl [0, 1, 2, 3] rfl)
            exact ⟨by omega, by first | (rw [nn_fm, if_pos (by simp [tl_fb, c_1, c_1n, c_3, c_7, c_9]; done), ← hI]; simp [nn_up, tl_fb, c_1, c_1n, c_3, c_7, c_9]; done) | (rw [nn_fm, if_neg (by simp [tl_fb, c_1, c_1n, c_3, c_7, c_9]; done), ← hI])⟩
          · have c_9 : (tl_bf fI fL j_5 k) = true := bI_t c_9
            refine lv_iload hx hb d_Tellings_latestNumbered_38 (lv_at hl 0 rfl) ?_
            refine lv_istore_n (lv' := [(3, .int (nI k)), (4, .int (nI k)), (0, .ref h0), (1, .long am)]) hx hb d_Tellings_latestNumbered_40 rfl hl (by decide) rfl (fun ls hl => ?_)
            refine lv_iinc (v := nI (k + 1)) (lv' := [(4, .int (nI (k + 1))), (3, .int (nI k)), (0, .ref h0), (1, .long am)]) hx hb d_Tellings_latestNumbered_41 hl (k := 1) rfl (nI_add k 1) (by decide) rfl (fun ls hl => ?_)
            refine lv_goto (tgt := 5) hx hb d_Tellings_latestNumbered_44 (by decide) ?_
            refine ih5 (k + 1, (some k)) ls (show n - (k + 1) < n - k by omega) ?_ (lv_sub hl [0, 1, 2, 3] rfl)
            exact ⟨by omega, by first | (rw [nn_fm, if_pos (by simp [tl_fb, c_1, c_1n, c_3, c_7, c_9]; done), ← hI]; simp [nn_up, tl_fb, c_1, c_1n, c_3, c_7, c_9]; done) | (rw [nn_fm, if_neg (by simp [tl_fb, c_1, c_1n, c_3, c_7, c_9]; done), ← hI])⟩
  · exact ⟨Nat.zero_le _, rfl⟩
set_option maxHeartbeats 4000000 in
set_option maxRecDepth 100000 in
theorem c_Tellings_latestKnown (l : Launch) (G : sy_G) (h0 : Nat) (ad : Nat → Nat) (n : Nat) (fI : Nat → Nat → Int32) (fL : Nat → Nat → Int64) (am : Int64) (up : Int64) (ao : Int64) (hn : n ≤ 60) : Met l y_Tellings_latestKnown (sy_w y_Tellings_latestKnown b_Tellings_latestKnown 9 (some .int)) { frames := 2, cells := 0, slots := 0, locals := 44 } (va_Pc [.ref h0, .long am, .long up, .long ao] (sy_KP G (va_P G.1 classes (tw G.2 h0 ad n fI fL)))) (vp_Si (fun r => r = oI (tl_lk fI fL n am up ao))) 0 0 (fun _ => False) := by
  refine Met.ofW (cc := b_Tellings_latestKnown) (maxL := 9) (ret := (some .int)) (by decide) rfl ?_
  intro p e s m args below meth c s₁ B hml hv
  obtain ⟨rfl, hP, hK⟩ := hv
  have hx := B.exec
  have hb := B.bytes
  have hr := B.returns
  have hts := atoms_spec (ws := sy_w y_Tellings_latestKnown b_Tellings_latestKnown 9 (some .int)) B.pre
  have ht : ∀ wd ∈ sy_T, wd.before ([.ref h0, .long am, .long up, .long ao] : List Value).toArray s = true := fun wd h => hts wd (List.mem_cons_of_mem _ h)
  have hown : s.vm.findClass R_Tellings = some m.cls := findClass_of_methodNamed B.named
  have hlocks := B.notSynchronized
  have hl := lv_entry ([.ref h0, .long am, .long up, .long ao]) (n := 9) (Nat.le_of_ble_eq_true rfl)
  rw [lg_entry_eq]
  generalize (lg_sl ([.ref h0, .long am, .long up, .long ao]) ++ List.replicate (9 - (lg_sl ([.ref h0, .long am, .long up, .long ao])).length) Slot.unset).toArray = ls at hl ⊢
  have hl : lv_has ls 9 [(0, .ref h0), (1, .long am), (3, .long up), (5, .long ao)] := hl
  refine lv_iconst (v := (-1)) hx hb d_Tellings_latestKnown_0 (by decide) ?_
  refine lv_istore (lv' := [(7, .int (-1)), (0, .ref h0), (1, .long am), (3, .long up), (5, .long ao)]) hx hb d_Tellings_latestKnown_1 hl (by decide) rfl (fun ls hl => ?_)
  refine lv_iconst (v := 0) hx hb d_Tellings_latestKnown_3 (by decide) ?_
  refine lv_istore (lv' := [(8, .int 0), (7, .int (-1)), (0, .ref h0), (1, .long am), (3, .long up), (5, .long ao)]) hx hb d_Tellings_latestKnown_4 hl (by decide) rfl (fun ls hl => ?_)
  refine sy_loop (σ := Nat × Option Nat) (nL := 9) (fun x6 => match x6 with | (k, o) => n - k) (fun x6 => match x6 with | (k, o) => [(8, .int (nI k)), (7, .int (oI o)), (0, .ref h0), (1, .long am), (3, .long up), (5, .long ao)]) (fun x6 => match x6 with | (k, o) => k ≤ n ∧ o = nn_fm (tl_pL fL am up ao) (tl_lt fI fL) k) ?_ (0, none) ?_ (lv_sub hl [0, 1, 2, 3, 4, 5] rfl)
  · intro x6 ls hI hl ih6
    obtain ⟨k, o⟩ := x6
    have hl : lv_has ls 9 [(8, .int (nI k)), (7, .int (oI o)), (0, .ref h0), (1, .long am), (3, .long up), (5, .long ao)] := hl
    obtain ⟨hk, hI⟩ := hI
    refine lv_iload hx hb d_Tellings_latestKnown_6 (lv_at hl 0 rfl) ?_
    refine lv_aload_n hx hb d_Tellings_latestKnown_8 rfl (lv_at hl 2 rfl) ?_
    refine va_get (D := G.1) (ci := 5) (v := .int (nI n)) (C := R_Tellings) (T := F_Tellings) (N := 8) hx hb ht i_Tellings hown hK.1 hP 0 rfl rfl 7 (by decide) (ht _ m_67) (fun _ h9 => h9) rfl d_Tellings_latestKnown_9 ?_
    refine lv_icmp_ge (tgt := 76) hx hb d_Tellings_latestKnown_12 (by decide) (fun c_1 => ?_) (fun c_1 => ?_)
    · have c_1 : n ≤ k := (nI_leI (a := n) (b := k) (by omega) (by omega)).mp c_1
      have c_1n : ¬ k < n := by omega
      refine lv_iload hx hb d_Tellings_latestKnown_76 (lv_at hl 1 rfl) ?_
      exact W.iret (v := oI o) hx hb hr (fun t ht hW => ⟨oI o, rfl, by rw [hI, show k = n by omega] <;> rfl, ht⟩) (fun q h => by cases h) d_Tellings_latestKnown_78
    · have c_1 : ¬ n ≤ k := fun h9 => c_1 ((nI_leI (a := n) (b := k) (by omega) (by omega)).mpr h9)
      have c_1n : k < n := by omega
      refine lv_iload hx hb d_Tellings_latestKnown_15 (lv_at hl 0 rfl) ?_
      refine lv_lload_n hx hb d_Tellings_latestKnown_17 rfl (lv_at hl 3 rfl) ?_
      refine vp_callSi (va_Run.run (sy_runSN (As := [.int (nI k), .long am]) (rest := []) ⟨hx, hb, hml, hown, ht⟩ cl_Tellings_42 (c_DeviceSets_isIn l G k am) hK trivial rfl nm_DeviceSets_isIn rfl rfl ⟨Nat.le_of_ble_eq_true rfl, Nat.le_of_ble_eq_true rfl⟩ hl.1 (Nat.le_of_ble_eq_true rfl) d_Tellings_latestKnown_18 ⟨Nat.zero_le _, Nat.zero_le _⟩)) (fun r_2 hr_2 => ?_)
      subst hr_2
      refine lv_if_eq (tgt := 70) hx hb d_Tellings_latestKnown_21 (by decide) (fun c_3 => ?_) (fun c_3 => ?_)
      · have c_3 : (bs_in am k) = false := bI_f c_3
        refine lv_iinc (v := nI (k + 1)) (lv' := [(8, .int (nI (k + 1))), (7, .int (oI o)), (0, .ref h0), (1, .long am), (3, .long up), (5, .long ao)]) hx hb d_Tellings_latestKnown_70 hl (k := 0) rfl (nI_add k 1) (by decide) rfl (fun ls hl => ?_)
        refine lv_goto (tgt := 6) hx hb d_Tellings_latestKnown_73 (by decide) ?_
        refine ih6 (k + 1, o) ls (show n - (k + 1) < n - k by omega) ?_ (lv_sub hl [0, 1, 2, 3, 4, 5] rfl)
        exact ⟨by omega, by first | (rw [nn_fm, if_pos (by simp [tl_pL, c_1, c_1n, c_3]; done), ← hI]; simp [nn_up, tl_pL, c_1, c_1n, c_3]; done) | (rw [nn_fm, if_neg (by simp [tl_pL, c_1, c_1n, c_3]; done), ← hI])⟩
      · have c_3 : (bs_in am k) = true := bI_t c_3
        refine lv_aload_n hx hb d_Tellings_latestKnown_24 rfl (lv_at hl 2 rfl) ?_
        refine va_get (D := G.1) (ci := 5) (v := .ref (ad 4)) (C := R_Tellings) (T := F_Tellings) (N := 8) hx hb ht i_Tellings hown hK.1 hP 0 rfl rfl 4 (by decide) (ht _ m_62) (fun _ h9 => h9) rfl d_Tellings_latestKnown_25 ?_
        refine lv_iload hx hb d_Tellings_latestKnown_28 (lv_at hl 0 rfl) ?_
        refine sy_lald hx hb hK.1 hP 5 1 rfl rfl (k := k) (by omega) (by decide) d_Tellings_latestKnown_30 ?_
        refine lv_lload_n hx hb d_Tellings_latestKnown_31 rfl (lv_at hl 4 rfl) ?_
        refine sy_lc_gt (tgt := 70) hx hb d_Tellings_latestKnown_32 d_Tellings_latestKnown_33 (by decide) (fun c_4 => ?_) (fun c_4 => ?_)
        · have c_4n := sy_a64 c_4
          refine lv_iinc (v := nI (k + 1)) (lv' := [(8, .int (nI (k + 1))), (7, .int (oI o)), (0, .ref h0), (1, .long am), (3, .long up), (5, .long ao)]) hx hb d_Tellings_latestKnown_70 hl (k := 0) rfl (nI_add k 1) (by decide) rfl (fun ls hl => ?_)
          refine lv_goto (tgt := 6) hx hb d_Tellings_latestKnown_73 (by decide) ?_
          refine ih6 (k + 1, o) ls (show n - (k + 1) < n - k by omega) ?_ (lv_sub hl [0, 1, 2, 3, 4, 5] rfl)
          exact ⟨by omega, by first | (rw [nn_fm, if_pos (by simp [tl_pL, c_1, c_1n, c_3, c_4, c_4n]; done), ← hI]; simp [nn_up, tl_pL, c_1, c_1n, c_3, c_4, c_4n]; done) | (rw [nn_fm, if_neg (by simp [tl_pL, c_1, c_1n, c_3, c_4, c_4n]; done), ← hI])⟩
        · have c_4n := sy_b64 c_4
          refine lv_aload_n hx hb d_Tellings_latestKnown_36 rfl (lv_at hl 2 rfl) ?_
          refine va_get (D := G.1) (ci := 5) (v := .ref (ad 6)) (C := R_Tellings) (T := F_Tellings) (N := 8) hx hb ht i_Tellings hown hK.1 hP 0 rfl rfl 6 (by decide) (ht _ m_66) (fun _ h9 => h9) rfl d_Tellings_latestKnown_37 ?_
          refine lv_iload hx hb d_Tellings_latestKnown_40 (lv_at hl 0 rfl) ?_
          refine sy_lald hx hb hK.1 hP 7 1 rfl rfl (k := k) (by omega) (by decide) d_Tellings_latestKnown_42 ?_
          refine lv_lload hx hb d_Tellings_latestKnown_43 (lv_at hl 5 rfl) ?_
          refine sy_lc_gt (tgt := 70) hx hb d_Tellings_latestKnown_45 d_Tellings_latestKnown_46 (by decide) (fun c_5 => ?_) (fun c_5 => ?_)
          · have c_5n := sy_a64 c_5
            refine lv_iinc (v := nI (k + 1)) (lv' := [(8, .int (nI (k + 1))), (7, .int (oI o)), (0, .ref h0), (1, .long am), (3, .long up), (5, .long ao)]) hx hb d_Tellings_latestKnown_70 hl (k := 0) rfl (nI_add k 1) (by decide) rfl (fun ls hl => ?_)
            refine lv_goto (tgt := 6) hx hb d_Tellings_latestKnown_73 (by decide) ?_
            refine ih6 (k + 1, o) ls (show n - (k + 1) < n - k by omega) ?_ (lv_sub hl [0, 1, 2, 3, 4, 5] rfl)
            exact ⟨by omega, by first | (rw [nn_fm, if_pos (by simp [tl_pL, c_1, c_1n, c_3, c_4, c_4n, c_5, c_5n]; done), ← hI]; simp [nn_up, tl_pL, c_1, c_1n, c_3, c_4, c_4n, c_5, c_5n]; done) | (rw [nn_fm, if_neg (by simp [tl_pL, c_1, c_1n, c_3, c_4, c_4n, c_5, c_5n]; done), ← hI])⟩
          · have c_5n := sy_b64 c_5
            refine lv_iload hx hb d_Tellings_latestKnown_49 (lv_at hl 1 rfl) ?_
            refine lv_iconst (v := (-1)) hx hb d_Tellings_latestKnown_51 (by decide) ?_
            rcases o with _ | j_7
            · have hl : lv_has ls 9 [(8, .int (nI k)), (7, .int (-1)), (0, .ref h0), (1, .long am), (3, .long up), (5, .long ao)] := hl
              refine lv_icmp_eq (tgt := 66) hx hb d_Tellings_latestKnown_52 (by decide) (fun c_8 => ?_) (fun c_8 => absurd (by decide) c_8)
              refine lv_iload hx hb d_Tellings_latestKnown_66 (lv_at hl 0 rfl) ?_
              refine lv_istore (lv' := [(7, .int (nI k)), (8, .int (nI k)), (0, .ref h0), (1, .long am), (3, .long up), (5, .long ao)]) hx hb d_Tellings_latestKnown_68 hl (by decide) rfl (fun ls hl => ?_)
              refine lv_iinc (v := nI (k + 1)) (lv' := [(8, .int (nI (k + 1))), (7, .int (nI k)), (0, .ref h0), (1, .long am), (3, .long up), (5, .long ao)]) hx hb d_Tellings_latestKnown_70 hl (k := 1) rfl (nI_add k 1) (by decide) rfl (fun ls hl => ?_)
              refine lv_goto (tgt := 6) hx hb d_Tellings_latestKnown_73 (by decide) ?_
              refine ih6 (k + 1, (some k)) ls (show n - (k + 1) < n - k by omega) ?_ (lv_sub hl [0, 1, 2, 3, 4, 5] rfl)
              exact ⟨by omega, by first | (rw [nn_fm, if_pos (by simp [tl_pL, c_1, c_1n, c_3, c_4, c_4n, c_5, c_5n, c_8]; done), ← hI]; simp [nn_up, tl_pL, c_1, c_1n, c_3, c_4, c_4n, c_5, c_5n, c_8]; done) | (rw [nn_fm, if_neg (by simp [tl_pL, c_1, c_1n, c_3, c_4, c_4n, c_5, c_5n, c_8]; done), ← hI])⟩
            · have hl : lv_has ls 9 [(8, .int (nI k)), (7, .int (nI j_7)), (0, .ref h0), (1, .long am), (3, .long up), (5, .long ao)] := hl
              have hj_7 : j_7 < k := nn_fm_lt hI.symm
              refine lv_icmp_eq (tgt := 66) hx hb d_Tellings_latestKnown_52 (by decide) (fun c_9 => absurd c_9 (oI_ne (by omega))) (fun c_9 => ?_)
              refine lv_aload_n hx hb d_Tellings_latestKnown_55 rfl (lv_at hl 2 rfl) ?_
              refine lv_iload hx hb d_Tellings_latestKnown_56 (lv_at hl 0 rfl) ?_
              refine lv_iload hx hb d_Tellings_latestKnown_58 (lv_at hl 1 rfl) ?_
              refine vp_callSi (va_Run.run (sy_runV (As := [.int (nI k), .int (nI j_7)]) (rest := []) (b := h0) ⟨hx, hb, hml, hown, ht⟩ cl_Tellings_64 (c_Tellings_isOfLater l G h0 ad n fI fL k j_7 (by omega) (by omega)) hK hP (va_recv hK.1 hP (ci := 5) (q0 := 0) rfl rfl) rfl nm_Tellings_isOfLater rfl rfl ⟨Nat.le_of_ble_eq_true rfl, Nat.le_of_ble_eq_true rfl⟩ hl.1 (Nat.le_of_ble_eq_true rfl) d_Tellings_latestKnown_60 ⟨Nat.zero_le _, Nat.zero_le _⟩)) (fun r_10 hr_10 => ?_)
              subst hr_10
              refine lv_if_eq (tgt := 70) hx hb d_Tellings_latestKnown_63 (by decide) (fun c_11 => ?_) (fun c_11 => ?_)
              · have c_11 : (tl_lt fI fL k j_7) = false := bI_f c_11
                refine lv_iinc (v := nI (k + 1)) (lv' := [(8, .int (nI (k + 1))), (7, .int (nI j_7)), (0, .ref h0), (1, .long am), (3, .long up), (5, .long ao)]) hx hb d_Tellings_latestKnown_70 hl (k := 0) rfl (nI_add k 1) (by decide) rfl (fun ls hl => ?_)
                refine lv_goto (tgt := 6) hx hb d_Tellings_latestKnown_73 (by decide) ?_
                refine ih6 (k + 1, (some j_7)) ls (show n - (k + 1) < n - k by omega) ?_ (lv_sub hl [0, 1, 2, 3, 4, 5] rfl)
                exact ⟨by omega, by first | (rw [nn_fm, if_pos (by simp [tl_pL, c_1, c_1n, c_3, c_4, c_4n, c_5, c_5n, c_9, c_11]; done), ← hI]; simp [nn_up, tl_pL, c_1, c_1n, c_3, c_4, c_4n, c_5, c_5n, c_9, c_11]; done) | (rw [nn_fm, if_neg (by simp [tl_pL, c_1, c_1n, c_3, c_4, c_4n, c_5, c_5n, c_9, c_11]; done), ← hI])⟩
              · have c_11 : (tl_lt fI fL k j_7) = true := bI_t c_11
                refine lv_iload hx hb d_Tellings_latestKnown_66 (lv_at hl 0 rfl) ?_
                refine lv_istore (lv' := [(7, .int (nI k)), (8, .int (nI k)), (0, .ref h0), (1, .long am), (3, .long up), (5, .long ao)]) hx hb d_Tellings_latestKnown_68 hl (by decide) rfl (fun ls hl => ?_)
                refine lv_iinc (v := nI (k + 1)) (lv' := [(8, .int (nI (k + 1))), (7, .int (nI k)), (0, .ref h0), (1, .long am), (3, .long up), (5, .long ao)]) hx hb d_Tellings_latestKnown_70 hl (k := 1) rfl (nI_add k 1) (by decide) rfl (fun ls hl => ?_)
                refine lv_goto (tgt := 6) hx hb d_Tellings_latestKnown_73 (by decide) ?_
                refine ih6 (k + 1, (some k)) ls (show n - (k + 1) < n - k by omega) ?_ (lv_sub hl [0, 1, 2, 3, 4, 5] rfl)
                exact ⟨by omega, by first | (rw [nn_fm, if_pos (by simp [tl_pL, c_1, c_1n, c_3, c_4, c_4n, c_5, c_5n, c_9, c_11]; done), ← hI]; simp [nn_up, tl_pL, c_1, c_1n, c_3, c_4, c_4n, c_5, c_5n, c_9, c_11]; done) | (rw [nn_fm, if_neg (by simp [tl_pL, c_1, c_1n, c_3, c_4, c_4n, c_5, c_5n, c_9, c_11]; done), ← hI])⟩
  · exact ⟨Nat.zero_le _, rfl⟩
set_option maxHeartbeats 4000000 in
set_option maxRecDepth 100000 in
theorem c_Tellings_countBefore (l : Launch) (G : sy_G) (h0 : Nat) (ad : Nat → Nat) (n : Nat) (fI : Nat → Nat → Int32) (fL : Nat → Nat → Int64) (j : Nat) (am : Int64) (hn : n ≤ 60) (hj : j < 60) : Met l y_Tellings_countBefore (sy_w y_Tellings_countBefore b_Tellings_countBefore 6 (some .int)) { frames := 2, cells := 0, slots := 0, locals := 42 } (va_Pc [.ref h0, .int (nI j), .long am] (sy_KP G (va_P G.1 classes (tw G.2 h0 ad n fI fL)))) (vp_Si (fun r => r = nI (tl_cb fI fL n j am))) 0 0 (fun _ => False) := by
  refine Met.ofW (cc := b_Tellings_countBefore) (maxL := 6) (ret := (some .int)) (by decide) rfl ?_
  intro p e s m args below meth c s₁ B hml hv
  obtain ⟨rfl, hP, hK⟩ := hv
  have hx := B.exec
  have hb := B.bytes
  have hr := B.returns
  have hts := atoms_spec (ws := sy_w y_Tellings_countBefore b_Tellings_countBefore 6 (some .int)) B.pre
  have ht : ∀ wd ∈ sy_T, wd.before ([.ref h0, .int (nI j), .long am] : List Value).toArray s = true := fun wd h => hts wd (List.mem_cons_of_mem _ h)
  have hown : s.vm.findClass R_Tellings = some m.cls := findClass_of_methodNamed B.named
  have hlocks := B.notSynchronized
  have hl := lv_entry ([.ref h0, .int (nI j), .long am]) (n := 6) (Nat.le_of_ble_eq_true rfl)
  rw [lg_entry_eq]
  generalize (lg_sl ([.ref h0, .int (nI j), .long am]) ++ List.replicate (6 - (lg_sl ([.ref h0, .int (nI j), .long am])).length) Slot.unset).toArray = ls at hl ⊢
  have hl : lv_has ls 6 [(0, .ref h0), (1, .int (nI j)), (2, .long am)] := hl
  refine lv_iconst (v := 0) hx hb d_Tellings_countBefore_0 (by decide) ?_
  refine lv_istore (lv' := [(4, .int 0), (0, .ref h0), (1, .int (nI j)), (2, .long am)]) hx hb d_Tellings_countBefore_1 hl (by decide) rfl (fun ls hl => ?_)
  refine lv_iconst (v := 0) hx hb d_Tellings_countBefore_3 (by decide) ?_
  refine lv_istore (lv' := [(5, .int 0), (4, .int 0), (0, .ref h0), (1, .int (nI j)), (2, .long am)]) hx hb d_Tellings_countBefore_4 hl (by decide) rfl (fun ls hl => ?_)
  refine sy_loop (σ := Nat × Nat) (nL := 6) (fun x6 => match x6 with | (k, f) => n - k) (fun x6 => match x6 with | (k, f) => [(5, .int (nI k)), (4, .int (nI f)), (0, .ref h0), (1, .int (nI j)), (2, .long am)]) (fun x6 => match x6 with | (k, f) => k ≤ n ∧ f = nn_ct (tl_pC fI fL j am) k) ?_ (0, 0) ?_ (lv_sub hl [0, 1, 2, 3, 4] rfl)
  · intro x6 ls hI hl ih6
    obtain ⟨k, f⟩ := x6
    have hl : lv_has ls 6 [(5, .int (nI k)), (4, .int (nI f)), (0, .ref h0), (1, .int (nI j)), (2, .long am)] := hl
    obtain ⟨hk, hI⟩ := hI
    refine lv_iload hx hb d_Tellings_countBefore_6 (lv_at hl 0 rfl) ?_
    refine lv_aload_n hx hb d_Tellings_countBefore_8 rfl (lv_at hl 2 rfl) ?_
    refine va_get (D := G.1) (ci := 5) (v := .int (nI n)) (C := R_Tellings) (T := F_Tellings) (N := 8) hx hb ht i_Tellings hown hK.1 hP 0 rfl rfl 7 (by decide) (ht _ m_67) (fun _ h9 => h9) rfl d_Tellings_countBefore_9 ?_
    refine lv_icmp_ge (tgt := 43) hx hb d_Tellings_countBefore_12 (by decide) (fun c_1 => ?_) (fun c_1 => ?_)
    · have c_1 : n ≤ k := (nI_leI (a := n) (b := k) (by omega) (by omega)).mp c_1
      have c_1n : ¬ k < n := by omega
      refine lv_iload hx hb d_Tellings_countBefore_43 (lv_at hl 1 rfl) ?_
      exact W.iret (v := nI f) hx hb hr (fun t ht hW => ⟨nI f, rfl, by rw [hI, show k = n by omega] <;> rfl, ht⟩) (fun q h => by cases h) d_Tellings_countBefore_45
    · have c_1 : ¬ n ≤ k := fun h9 => c_1 ((nI_leI (a := n) (b := k) (by omega) (by omega)).mpr h9)
      have c_1n : k < n := by omega
      refine lv_iload hx hb d_Tellings_countBefore_15 (lv_at hl 0 rfl) ?_
      refine lv_lload_n hx hb d_Tellings_countBefore_17 rfl (lv_at hl 4 rfl) ?_
      refine vp_callSi (va_Run.run (sy_runSN (As := [.int (nI k), .long am]) (rest := []) ⟨hx, hb, hml, hown, ht⟩ cl_Tellings_42 (c_DeviceSets_isIn l G k am) hK trivial rfl nm_DeviceSets_isIn rfl rfl ⟨Nat.le_of_ble_eq_true rfl, Nat.le_of_ble_eq_true rfl⟩ hl.1 (Nat.le_of_ble_eq_true rfl) d_Tellings_countBefore_18 ⟨Nat.zero_le _, Nat.zero_le _⟩)) (fun r_2 hr_2 => ?_)
      subst hr_2
      refine lv_if_eq (tgt := 37) hx hb d_Tellings_countBefore_21 (by decide) (fun c_3 => ?_) (fun c_3 => ?_)
      · have c_3 : (bs_in am k) = false := bI_f c_3
        refine lv_iinc (v := nI (k + 1)) (lv' := [(5, .int (nI (k + 1))), (4, .int (nI f)), (0, .ref h0), (1, .int (nI j)), (2, .long am)]) hx hb d_Tellings_countBefore_37 hl (k := 0) rfl (nI_add k 1) (by decide) rfl (fun ls hl => ?_)
        refine lv_goto (tgt := 6) hx hb d_Tellings_countBefore_40 (by decide) ?_
        refine ih6 (k + 1, f) ls (show n - (k + 1) < n - k by omega) ?_ (lv_sub hl [0, 1, 2, 3, 4] rfl)
        exact ⟨by omega, by first | (rw [nn_ct, if_pos (by simp [tl_pC, c_1, c_1n, c_3]; done), ← hI]; done) | (rw [nn_ct, if_neg (by simp [tl_pC, c_1, c_1n, c_3]; done), ← hI])⟩
      · have c_3 : (bs_in am k) = true := bI_t c_3
        refine lv_aload_n hx hb d_Tellings_countBefore_24 rfl (lv_at hl 2 rfl) ?_
        refine lv_iload hx hb d_Tellings_countBefore_25 (lv_at hl 0 rfl) ?_
        refine lv_iload_n hx hb d_Tellings_countBefore_27 rfl (lv_at hl 3 rfl) ?_
        refine vp_callSi (va_Run.run (sy_runV (As := [.int (nI k), .int (nI j)]) (rest := []) (b := h0) ⟨hx, hb, hml, hown, ht⟩ cl_Tellings_56 (c_Tellings_isBefore l G h0 ad n fI fL k j (by omega) (by omega)) hK hP (va_recv hK.1 hP (ci := 5) (q0 := 0) rfl rfl) rfl nm_Tellings_isBefore rfl rfl ⟨Nat.le_of_ble_eq_true rfl, Nat.le_of_ble_eq_true rfl⟩ hl.1 (Nat.le_of_ble_eq_true rfl) d_Tellings_countBefore_28 ⟨Nat.zero_le _, Nat.zero_le _⟩)) (fun r_4 hr_4 => ?_)
        subst hr_4
        refine lv_if_eq (tgt := 37) hx hb d_Tellings_countBefore_31 (by decide) (fun c_5 => ?_) (fun c_5 => ?_)
        · have c_5 : (tl_bf fI fL k j) = false := bI_f c_5
          refine lv_iinc (v := nI (k + 1)) (lv' := [(5, .int (nI (k + 1))), (4, .int (nI f)), (0, .ref h0), (1, .int (nI j)), (2, .long am)]) hx hb d_Tellings_countBefore_37 hl (k := 0) rfl (nI_add k 1) (by decide) rfl (fun ls hl => ?_)
          refine lv_goto (tgt := 6) hx hb d_Tellings_countBefore_40 (by decide) ?_
          refine ih6 (k + 1, f) ls (show n - (k + 1) < n - k by omega) ?_ (lv_sub hl [0, 1, 2, 3, 4] rfl)
          exact ⟨by omega, by first | (rw [nn_ct, if_pos (by simp [tl_pC, c_1, c_1n, c_3, c_5]; done), ← hI]; done) | (rw [nn_ct, if_neg (by simp [tl_pC, c_1, c_1n, c_3, c_5]; done), ← hI])⟩
        · have c_5 : (tl_bf fI fL k j) = true := bI_t c_5
          refine lv_iinc (v := nI (f + 1)) (lv' := [(4, .int (nI (f + 1))), (5, .int (nI k)), (0, .ref h0), (1, .int (nI j)), (2, .long am)]) hx hb d_Tellings_countBefore_34 hl (k := 1) rfl (nI_add f 1) (by decide) rfl (fun ls hl => ?_)
          refine lv_iinc (v := nI (k + 1)) (lv' := [(5, .int (nI (k + 1))), (4, .int (nI (f + 1))), (0, .ref h0), (1, .int (nI j)), (2, .long am)]) hx hb d_Tellings_countBefore_37 hl (k := 1) rfl (nI_add k 1) (by decide) rfl (fun ls hl => ?_)
          refine lv_goto (tgt := 6) hx hb d_Tellings_countBefore_40 (by decide) ?_
          refine ih6 (k + 1, f + 1) ls (show n - (k + 1) < n - k by omega) ?_ (lv_sub hl [0, 1, 2, 3, 4] rfl)
          exact ⟨by omega, by first | (rw [nn_ct, if_pos (by simp [tl_pC, c_1, c_1n, c_3, c_5]; done), ← hI]; done) | (rw [nn_ct, if_neg (by simp [tl_pC, c_1, c_1n, c_3, c_5]; done), ← hI])⟩
  · exact ⟨Nat.zero_le _, rfl⟩
set_option maxHeartbeats 4000000 in
set_option maxRecDepth 100000 in
theorem c_Tellings_inPlace (l : Launch) (G : sy_G) (h0 : Nat) (ad : Nat → Nat) (n : Nat) (fI : Nat → Nat → Int32) (fL : Nat → Nat → Int64) (am : Int64) (pl : Int32) (hn : n ≤ 60) : Met l y_Tellings_inPlace (sy_w y_Tellings_inPlace b_Tellings_inPlace 5 (some .int)) { frames := 3, cells := 0, slots := 0, locals := 67 } (va_Pc [.ref h0, .long am, .int pl] (sy_KP G (va_P G.1 classes (tw G.2 h0 ad n fI fL)))) (vp_Si (fun r => r = oI (tl_ip fI fL n am pl))) 0 0 (fun _ => False) := by
  refine Met.ofW (cc := b_Tellings_inPlace) (maxL := 5) (ret := (some .int)) (by decide) rfl ?_
  intro p e s m args below meth c s₁ B hml hv
  obtain ⟨rfl, hP, hK⟩ := hv
  have hx := B.exec
  have hb := B.bytes
  have hr := B.returns
  have hts := atoms_spec (ws := sy_w y_Tellings_inPlace b_Tellings_inPlace 5 (some .int)) B.pre
  have ht : ∀ wd ∈ sy_T, wd.before ([.ref h0, .long am, .int pl] : List Value).toArray s = true := fun wd h => hts wd (List.mem_cons_of_mem _ h)
  have hown : s.vm.findClass R_Tellings = some m.cls := findClass_of_methodNamed B.named
  have hlocks := B.notSynchronized
  have hl := lv_entry ([.ref h0, .long am, .int pl]) (n := 5) (Nat.le_of_ble_eq_true rfl)
  rw [lg_entry_eq]
  generalize (lg_sl ([.ref h0, .long am, .int pl]) ++ List.replicate (5 - (lg_sl ([.ref h0, .long am, .int pl])).length) Slot.unset).toArray = ls at hl ⊢
  have hl : lv_has ls 5 [(0, .ref h0), (1, .long am), (3, .int pl)] := hl
  refine lv_iconst (v := 0) hx hb d_Tellings_inPlace_0 (by decide) ?_
  refine lv_istore (lv' := [(4, .int 0), (0, .ref h0), (1, .long am), (3, .int pl)]) hx hb d_Tellings_inPlace_1 hl (by decide) rfl (fun ls hl => ?_)
  refine sy_loop (σ := Nat) (nL := 5) (fun k => n - k) (fun k => [(4, .int (nI k)), (0, .ref h0), (1, .long am), (3, .int pl)]) (fun k => k ≤ n ∧ nn_ff (tl_pI fI fL n am pl) k = none) ?_ 0 ?_ (lv_sub hl [0, 1, 2, 3] rfl)
  · intro k ls hI hl ih3
    have hl : lv_has ls 5 [(4, .int (nI k)), (0, .ref h0), (1, .long am), (3, .int pl)] := hl
    obtain ⟨hk, hI⟩ := hI
    refine lv_iload hx hb d_Tellings_inPlace_3 (lv_at hl 0 rfl) ?_
    refine lv_aload_n hx hb d_Tellings_inPlace_5 rfl (lv_at hl 1 rfl) ?_
    refine va_get (D := G.1) (ci := 5) (v := .int (nI n)) (C := R_Tellings) (T := F_Tellings) (N := 8) hx hb ht i_Tellings hown hK.1 hP 0 rfl rfl 7 (by decide) (ht _ m_67) (fun _ h9 => h9) rfl d_Tellings_inPlace_6 ?_
    refine lv_icmp_ge (tgt := 41) hx hb d_Tellings_inPlace_9 (by decide) (fun c_1 => ?_) (fun c_1 => ?_)
    · have c_1 : n ≤ k := (nI_leI (a := n) (b := k) (by omega) (by omega)).mp c_1
      have c_1n : ¬ k < n := by omega
      refine lv_iconst (v := (-1)) hx hb d_Tellings_inPlace_41 (by decide) ?_
      exact W.iret (v := (-1 : Int32)) hx hb hr (fun t ht hW => ⟨(-1 : Int32), rfl, by first | (rw [tl_ip, nn_ff_of (k := k) (by omega) hI (by simp [tl_pI, c_1, c_1n]; done)]; rfl) | (have e : k = n := (by omega); rw [e] at hI; rw [tl_ip, hI]; rfl), ht⟩) (fun q h => by cases h) d_Tellings_inPlace_42
    · have c_1 : ¬ n ≤ k := fun h9 => c_1 ((nI_leI (a := n) (b := k) (by omega) (by omega)).mpr h9)
      have c_1n : k < n := by omega
      refine lv_iload hx hb d_Tellings_inPlace_12 (lv_at hl 0 rfl) ?_
      refine lv_lload_n hx hb d_Tellings_inPlace_14 rfl (lv_at hl 2 rfl) ?_
      refine vp_callSi (va_Run.run (sy_runSN (As := [.int (nI k), .long am]) (rest := []) ⟨hx, hb, hml, hown, ht⟩ cl_Tellings_42 (c_DeviceSets_isIn l G k am) hK trivial rfl nm_DeviceSets_isIn rfl rfl ⟨Nat.le_of_ble_eq_true rfl, Nat.le_of_ble_eq_true rfl⟩ hl.1 (Nat.le_of_ble_eq_true rfl) d_Tellings_inPlace_15 ⟨Nat.zero_le _, Nat.zero_le _⟩)) (fun r_2 hr_2 => ?_)
      subst hr_2
      refine lv_if_eq (tgt := 35) hx hb d_Tellings_inPlace_18 (by decide) (fun c_3 => ?_) (fun c_3 => ?_)
      · have c_3 : (bs_in am k) = false := bI_f c_3
        refine lv_iinc (v := nI (k + 1)) (lv' := [(4, .int (nI (k + 1))), (0, .ref h0), (1, .long am), (3, .int pl)]) hx hb d_Tellings_inPlace_35 hl (k := 0) rfl (nI_add k 1) (by decide) rfl (fun ls hl => ?_)
        refine lv_goto (tgt := 3) hx hb d_Tellings_inPlace_38 (by decide) ?_
        refine ih3 (k + 1) ls (show n - (k + 1) < n - k by omega) ?_ (lv_sub hl [0, 1, 2, 3] rfl)
        exact ⟨by omega, by simp [nn_ff, hI, tl_pI, c_1, c_1n, c_3]⟩
      · have c_3 : (bs_in am k) = true := bI_t c_3
        refine lv_aload_n hx hb d_Tellings_inPlace_21 rfl (lv_at hl 1 rfl) ?_
        refine lv_iload hx hb d_Tellings_inPlace_22 (lv_at hl 0 rfl) ?_
        refine lv_lload_n hx hb d_Tellings_inPlace_24 rfl (lv_at hl 2 rfl) ?_
        refine vp_callSi (va_Run.run (sy_runV (As := [.int (nI k), .long am]) (rest := []) (b := h0) ⟨hx, hb, hml, hown, ht⟩ cl_Tellings_60 (c_Tellings_countBefore l G h0 ad n fI fL k am (by omega) (by omega)) hK hP (va_recv hK.1 hP (ci := 5) (q0 := 0) rfl rfl) rfl nm_Tellings_countBefore rfl rfl ⟨Nat.le_of_ble_eq_true rfl, Nat.le_of_ble_eq_true rfl⟩ hl.1 (Nat.le_of_ble_eq_true rfl) d_Tellings_inPlace_25 ⟨Nat.zero_le _, Nat.zero_le _⟩)) (fun r_4 hr_4 => ?_)
        subst hr_4
        refine lv_iload_n hx hb d_Tellings_inPlace_28 rfl (lv_at hl 3 rfl) ?_
        refine lv_icmp_ne (tgt := 35) hx hb d_Tellings_inPlace_29 (by decide) (fun c_5 => ?_) (fun c_5 => ?_)
        · refine lv_iinc (v := nI (k + 1)) (lv' := [(4, .int (nI (k + 1))), (0, .ref h0), (1, .long am), (3, .int pl)]) hx hb d_Tellings_inPlace_35 hl (k := 0) rfl (nI_add k 1) (by decide) rfl (fun ls hl => ?_)
          refine lv_goto (tgt := 3) hx hb d_Tellings_inPlace_38 (by decide) ?_
          refine ih3 (k + 1) ls (show n - (k + 1) < n - k by omega) ?_ (lv_sub hl [0, 1, 2, 3] rfl)
          exact ⟨by omega, by simp [nn_ff, hI, tl_pI, c_1, c_1n, c_3, c_5]⟩
        · refine lv_iload hx hb d_Tellings_inPlace_32 (lv_at hl 0 rfl) ?_
          exact W.iret (v := nI k) hx hb hr (fun t ht hW => ⟨nI k, rfl, by first | (rw [tl_ip, nn_ff_of (k := k) (by omega) hI (by simp [tl_pI, c_1, c_1n, c_3, c_5]; done)]; rfl) | (have e : k = n := (by omega); rw [e] at hI; rw [tl_ip, hI]; rfl), ht⟩) (fun q h => by cases h) d_Tellings_inPlace_34
  · exact ⟨Nat.zero_le _, rfl⟩
set_option maxHeartbeats 4000000 in
set_option maxRecDepth 100000 in
theorem c_Tellings_unsettled (l : Launch) (G : sy_G) (h0 : Nat) (ad : Nat → Nat) (n : Nat) (fI : Nat → Nat → Int32) (fL : Nat → Nat → Int64) (lv : Int64) (ch : Int64) (hn : n ≤ 60) : Met l y_Tellings_unsettled (sy_w y_Tellings_unsettled b_Tellings_unsettled 12 (some .long)) { frames := 3, cells := 0, slots := 0, locals := 68 } (va_Pc [.ref h0, .long lv, .long ch] (sy_KP G (va_P G.1 classes (tw G.2 h0 ad n fI fL)))) (vp_Sl (fun r => r = tl_us fI n lv ch)) 0 0 (fun _ => False) := by
  refine Met.ofW (cc := b_Tellings_unsettled) (maxL := 12) (ret := (some .long)) (by decide) rfl ?_
  intro p e s m args below meth c s₁ B hml hv
  obtain ⟨rfl, hP, hK⟩ := hv
  have hx := B.exec
  have hb := B.bytes
  have hr := B.returns
  have hts := atoms_spec (ws := sy_w y_Tellings_unsettled b_Tellings_unsettled 12 (some .long)) B.pre
  have ht : ∀ wd ∈ sy_T, wd.before ([.ref h0, .long lv, .long ch] : List Value).toArray s = true := fun wd h => hts wd (List.mem_cons_of_mem _ h)
  have hown : s.vm.findClass R_Tellings = some m.cls := findClass_of_methodNamed B.named
  have hlocks := B.notSynchronized
  have hl := lv_entry ([.ref h0, .long lv, .long ch]) (n := 12) (Nat.le_of_ble_eq_true rfl)
  rw [lg_entry_eq]
  generalize (lg_sl ([.ref h0, .long lv, .long ch]) ++ List.replicate (12 - (lg_sl ([.ref h0, .long lv, .long ch])).length) Slot.unset).toArray = ls at hl ⊢
  have hl : lv_has ls 12 [(0, .ref h0), (1, .long lv), (3, .long ch)] := hl
  refine lv_lconst (v := 0) hx hb d_Tellings_unsettled_0 (by decide) ?_
  refine lv_lstore (lv' := [(5, .long 0), (0, .ref h0), (1, .long lv), (3, .long ch)]) hx hb d_Tellings_unsettled_1 hl (by decide) rfl (fun ls hl => ?_)
  refine lv_lload_n hx hb d_Tellings_unsettled_3 rfl (lv_at hl 2 rfl) ?_
  refine lv_lstore (lv' := [(7, .long lv), (5, .long 0), (0, .ref h0), (1, .long lv), (3, .long ch)]) hx hb d_Tellings_unsettled_4 hl (by decide) rfl (fun ls hl => ?_)
  refine lv_iconst (v := 0) hx hb d_Tellings_unsettled_6 (by decide) ?_
  refine lv_istore (lv' := [(9, .int 0), (7, .long lv), (5, .long 0), (0, .ref h0), (1, .long lv), (3, .long ch)]) hx hb d_Tellings_unsettled_7 hl (by decide) rfl (fun ls hl => ?_)
  refine sy_loop (σ := Nat × Int64 × Int64) (nL := 12) (fun x9 => match x9 with | (k, f, g) => n - k) (fun x9 => match x9 with | (k, f, g) => [(9, .int (nI k)), (5, .long f), (7, .long g), (0, .ref h0), (1, .long lv), (3, .long ch)]) (fun x9 => match x9 with | (k, f, g) => k ≤ n ∧ f = bs_m (tl_pU fI n lv ch) k ∧ g = tl_usr fI n lv k) ?_ (0, (0 : Int64), lv) ?_ (lv_sub hl [0, 2, 1, 3, 4, 5] rfl)
  · intro x9 ls hI hl ih9
    obtain ⟨k, f, g⟩ := x9
    have hl : lv_has ls 12 [(9, .int (nI k)), (5, .long f), (7, .long g), (0, .ref h0), (1, .long lv), (3, .long ch)] := hl
    obtain ⟨hk, hI, hI2⟩ := hI
    refine lv_iload hx hb d_Tellings_unsettled_9 (lv_at hl 0 rfl) ?_
    refine lv_aload_n hx hb d_Tellings_unsettled_11 rfl (lv_at hl 3 rfl) ?_
    refine va_get (D := G.1) (ci := 5) (v := .int (nI n)) (C := R_Tellings) (T := F_Tellings) (N := 8) hx hb ht i_Tellings hown hK.1 hP 0 rfl rfl 7 (by decide) (ht _ m_67) (fun _ h9 => h9) rfl d_Tellings_unsettled_12 ?_
    refine lv_icmp_ge (tgt := 84) hx hb d_Tellings_unsettled_15 (by decide) (fun c_1 => ?_) (fun c_1 => ?_)
    · have c_1 : n ≤ k := (nI_leI (a := n) (b := k) (by omega) (by omega)).mp c_1
      have c_1n : ¬ k < n := by omega
      refine lv_lload hx hb d_Tellings_unsettled_84 (lv_at hl 1 rfl) ?_
      exact W.lret (v := f) hx hb hr (fun t ht hW => ⟨f, rfl, by rw [hI, show k = n by omega] <;> rfl, ht⟩) (fun q h => by cases h) d_Tellings_unsettled_86
    · have c_1 : ¬ n ≤ k := fun h9 => c_1 ((nI_leI (a := n) (b := k) (by omega) (by omega)).mpr h9)
      have c_1n : k < n := by omega
      refine lv_iload hx hb d_Tellings_unsettled_18 (lv_at hl 0 rfl) ?_
      refine lv_lload hx hb d_Tellings_unsettled_20 (lv_at hl 2 rfl) ?_
      refine vp_callSi (va_Run.run (sy_runSN (As := [.int (nI k), .long g]) (rest := []) ⟨hx, hb, hml, hown, ht⟩ cl_Tellings_42 (c_DeviceSets_isIn l G k g) hK trivial rfl nm_DeviceSets_isIn rfl rfl ⟨Nat.le_of_ble_eq_true rfl, Nat.le_of_ble_eq_true rfl⟩ hl.1 (Nat.le_of_ble_eq_true rfl) d_Tellings_unsettled_22 ⟨Nat.zero_le _, Nat.zero_le _⟩)) (fun r_2 hr_2 => ?_)
      subst hr_2
      refine lv_if_eq (tgt := 78) hx hb d_Tellings_unsettled_25 (by decide) (fun c_3 => ?_) (fun c_3 => ?_)
      · have c_3 : (bs_in g k) = false := bI_f c_3
        refine lv_iinc (v := nI (k + 1)) (lv' := [(9, .int (nI (k + 1))), (5, .long f), (7, .long g), (0, .ref h0), (1, .long lv), (3, .long ch)]) hx hb d_Tellings_unsettled_78 hl (k := 0) rfl (nI_add k 1) (by decide) rfl (fun ls hl => ?_)
        refine lv_goto (tgt := 9) hx hb d_Tellings_unsettled_81 (by decide) ?_
        refine ih9 (k + 1, f, g) ls (show n - (k + 1) < n - k by omega) ?_ (lv_sub hl [0, 1, 2, 3, 4, 5] rfl)
        exact ⟨by omega, by first | (rw [bs_m, if_pos (by simp [tl_pU, ← hI2, c_1, c_1n, c_3]; done), ← hI]; done) | (rw [bs_m, if_neg (by simp [tl_pU, ← hI2, c_1, c_1n, c_3]; done), ← hI]), by first | (rw [tl_usr, if_pos (by simp [← hI2, c_1, c_1n, c_3]; done), ← hI2]; done) | (rw [tl_usr, if_neg (by simp [← hI2, c_1, c_1n, c_3]; done), ← hI2])⟩
      · have c_3 : (bs_in g k) = true := bI_t c_3
        refine lv_aload_n hx hb d_Tellings_unsettled_28 rfl (lv_at hl 3 rfl) ?_
        refine lv_iload hx hb d_Tellings_unsettled_29 (lv_at hl 0 rfl) ?_
        refine lv_lload_n hx hb d_Tellings_unsettled_31 rfl (lv_at hl 4 rfl) ?_
        refine vp_callSl (va_Run.run (sy_runV (As := [.int (nI k), .long lv]) (rest := []) (b := h0) ⟨hx, hb, hml, hown, ht⟩ cl_Tellings_46 (c_Tellings_ofKeyOf l G h0 ad n fI fL k lv (by omega) (by omega)) hK hP (va_recv hK.1 hP (ci := 5) (q0 := 0) rfl rfl) rfl nm_Tellings_ofKeyOf rfl rfl ⟨Nat.le_of_ble_eq_true rfl, Nat.le_of_ble_eq_true rfl⟩ hl.1 (Nat.le_of_ble_eq_true rfl) d_Tellings_unsettled_32 ⟨Nat.zero_le _, Nat.zero_le _⟩)) (fun r_4 hr_4 => ?_)
        subst hr_4
        refine lv_lstore (lv' := [(10, .long (tl_key fI n k lv)), (9, .int (nI k)), (5, .long f), (7, .long g), (0, .ref h0), (1, .long lv), (3, .long ch)]) hx hb d_Tellings_unsettled_35 hl (by decide) rfl (fun ls hl => ?_)
        refine lv_lload hx hb d_Tellings_unsettled_37 (lv_at hl 3 rfl) ?_
        refine lv_lload hx hb d_Tellings_unsettled_39 (lv_at hl 0 rfl) ?_
        refine lv_ldc2 (v := (-1)) hx hb hown (ht _ m_303) d_Tellings_unsettled_41 ?_
        refine lv_lxor hx hb d_Tellings_unsettled_44 ?_
        refine lv_land hx hb d_Tellings_unsettled_45 ?_
        refine lv_lstore (lv' := [(7, .long (g &&& ((tl_key fI n k lv) ^^^ (-1)))), (10, .long (tl_key fI n k lv)), (9, .int (nI k)), (5, .long f), (0, .ref h0), (1, .long lv), (3, .long ch)]) hx hb d_Tellings_unsettled_46 hl (by decide) rfl (fun ls hl => ?_)
        refine lv_lload hx hb d_Tellings_unsettled_48 (lv_at hl 1 rfl) ?_
        refine lv_iload hx hb d_Tellings_unsettled_50 (lv_at hl 2 rfl) ?_
        refine vp_callSl (va_Run.run (sy_runSN (As := [.int (nI k)]) (rest := [.long (tl_key fI n k lv)]) ⟨hx, hb, hml, hown, ht⟩ cl_Tellings_38 (c_DeviceSets_bit l G k) hK trivial rfl nm_DeviceSets_bit rfl rfl ⟨Nat.le_of_ble_eq_true rfl, Nat.le_of_ble_eq_true rfl⟩ hl.1 (Nat.le_of_ble_eq_true rfl) d_Tellings_unsettled_52 ⟨Nat.zero_le _, Nat.zero_le _⟩)) (fun r_5 hr_5 => ?_)
        subst hr_5
        refine sy_lc_eq (tgt := 78) hx hb d_Tellings_unsettled_55 d_Tellings_unsettled_56 (by decide) (fun c_6 => ?_) (fun c_6 => ?_)
        · refine lv_iinc (v := nI (k + 1)) (lv' := [(9, .int (nI (k + 1))), (7, .long (g &&& ((tl_key fI n k lv) ^^^ (-1)))), (10, .long (tl_key fI n k lv)), (5, .long f), (0, .ref h0), (1, .long lv), (3, .long ch)]) hx hb d_Tellings_unsettled_78 hl (k := 2) rfl (nI_add k 1) (by decide) rfl (fun ls hl => ?_)
          refine lv_goto (tgt := 9) hx hb d_Tellings_unsettled_81 (by decide) ?_
          refine ih9 (k + 1, f, g &&& ((tl_key fI n k lv) ^^^ (-1))) ls (show n - (k + 1) < n - k by omega) ?_ (lv_sub hl [0, 3, 1, 4, 5, 6] rfl)
          exact ⟨by omega, by first | (rw [bs_m, if_pos (by simp [tl_pU, ← hI2, c_1, c_1n, c_3, c_6]; done), ← hI]; done) | (rw [bs_m, if_neg (by simp [tl_pU, ← hI2, c_1, c_1n, c_3, c_6]; done), ← hI]), by first | (rw [tl_usr, if_pos (by simp [← hI2, c_1, c_1n, c_3, c_6]; done), ← hI2]; done) | (rw [tl_usr, if_neg (by simp [← hI2, c_1, c_1n, c_3, c_6]; done), ← hI2])⟩
        · refine lv_lload hx hb d_Tellings_unsettled_59 (lv_at hl 1 rfl) ?_
          refine lv_lload_n hx hb d_Tellings_unsettled_61 rfl (lv_at hl 6 rfl) ?_
          refine lv_land hx hb d_Tellings_unsettled_62 ?_
          refine lv_lconst (v := 0) hx hb d_Tellings_unsettled_63 (by decide) ?_
          refine sy_lc_ne (tgt := 78) hx hb d_Tellings_unsettled_64 d_Tellings_unsettled_65 (by decide) (fun c_7 => ?_) (fun c_7 => ?_)
          · refine lv_iinc (v := nI (k + 1)) (lv' := [(9, .int (nI (k + 1))), (7, .long (g &&& ((tl_key fI n k lv) ^^^ (-1)))), (10, .long (tl_key fI n k lv)), (5, .long f), (0, .ref h0), (1, .long lv), (3, .long ch)]) hx hb d_Tellings_unsettled_78 hl (k := 2) rfl (nI_add k 1) (by decide) rfl (fun ls hl => ?_)
            refine lv_goto (tgt := 9) hx hb d_Tellings_unsettled_81 (by decide) ?_
            refine ih9 (k + 1, f, g &&& ((tl_key fI n k lv) ^^^ (-1))) ls (show n - (k + 1) < n - k by omega) ?_ (lv_sub hl [0, 3, 1, 4, 5, 6] rfl)
            exact ⟨by omega, by first | (rw [bs_m, if_pos (by simp [tl_pU, ← hI2, c_1, c_1n, c_3, c_6, c_7]; done), ← hI]; done) | (rw [bs_m, if_neg (by simp [tl_pU, ← hI2, c_1, c_1n, c_3, c_6, c_7]; done), ← hI]), by first | (rw [tl_usr, if_pos (by simp [← hI2, c_1, c_1n, c_3, c_6, c_7]; done), ← hI2]; done) | (rw [tl_usr, if_neg (by simp [← hI2, c_1, c_1n, c_3, c_6, c_7]; done), ← hI2])⟩
          · refine lv_lload hx hb d_Tellings_unsettled_68 (lv_at hl 3 rfl) ?_
            refine lv_iload hx hb d_Tellings_unsettled_70 (lv_at hl 2 rfl) ?_
            refine vp_callSl (va_Run.run (sy_runSN (As := [.int (nI k)]) (rest := [.long f]) ⟨hx, hb, hml, hown, ht⟩ cl_Tellings_38 (c_DeviceSets_bit l G k) hK trivial rfl nm_DeviceSets_bit rfl rfl ⟨Nat.le_of_ble_eq_true rfl, Nat.le_of_ble_eq_true rfl⟩ hl.1 (Nat.le_of_ble_eq_true rfl) d_Tellings_unsettled_72 ⟨Nat.zero_le _, Nat.zero_le _⟩)) (fun r_8 hr_8 => ?_)
            subst hr_8
            refine lv_lor hx hb d_Tellings_unsettled_75 ?_
            refine lv_lstore (lv' := [(5, .long (f ||| (bs_b k))), (7, .long (g &&& ((tl_key fI n k lv) ^^^ (-1)))), (10, .long (tl_key fI n k lv)), (9, .int (nI k)), (0, .ref h0), (1, .long lv), (3, .long ch)]) hx hb d_Tellings_unsettled_76 hl (by decide) rfl (fun ls hl => ?_)
            refine lv_iinc (v := nI (k + 1)) (lv' := [(9, .int (nI (k + 1))), (5, .long (f ||| (bs_b k))), (7, .long (g &&& ((tl_key fI n k lv) ^^^ (-1)))), (10, .long (tl_key fI n k lv)), (0, .ref h0), (1, .long lv), (3, .long ch)]) hx hb d_Tellings_unsettled_78 hl (k := 3) rfl (nI_add k 1) (by decide) rfl (fun ls hl => ?_)
            refine lv_goto (tgt := 9) hx hb d_Tellings_unsettled_81 (by decide) ?_
            refine ih9 (k + 1, f ||| (bs_b k), g &&& ((tl_key fI n k lv) ^^^ (-1))) ls (show n - (k + 1) < n - k by omega) ?_ (lv_sub hl [0, 1, 2, 4, 5, 6] rfl)
            exact ⟨by omega, by first | (rw [bs_m, if_pos (by simp [tl_pU, ← hI2, c_1, c_1n, c_3, c_6, c_7]; done), ← hI]; done) | (rw [bs_m, if_neg (by simp [tl_pU, ← hI2, c_1, c_1n, c_3, c_6, c_7]; done), ← hI]), by first | (rw [tl_usr, if_pos (by simp [← hI2, c_1, c_1n, c_3, c_6, c_7]; done), ← hI2]; done) | (rw [tl_usr, if_neg (by simp [← hI2, c_1, c_1n, c_3, c_6, c_7]; done), ← hI2])⟩
  · exact ⟨Nat.zero_le _, rfl, rfl⟩
set_option maxHeartbeats 4000000 in
set_option maxRecDepth 100000 in
theorem c_Tellings_holding (l : Launch) (G : sy_G) (h0 : Nat) (ad : Nat → Nat) (n : Nat) (fI : Nat → Nat → Int32) (fL : Nat → Nat → Int64) (lv : Int64) (ch : Int64) (hn : n ≤ 60) : Met l y_Tellings_holding (sy_w y_Tellings_holding b_Tellings_holding 10 (some .long)) { frames := 3, cells := 0, slots := 0, locals := 68 } (va_Pc [.ref h0, .long lv, .long ch] (sy_KP G (va_P G.1 classes (tw G.2 h0 ad n fI fL)))) (vp_Sl (fun r => r = tl_hold fI fL n lv ch)) 0 0 (fun _ => False) := by
  refine Met.ofW (cc := b_Tellings_holding) (maxL := 10) (ret := (some .long)) (by decide) rfl ?_
  intro p e s m args below meth c s₁ B hml hv
  obtain ⟨rfl, hP, hK⟩ := hv
  have hx := B.exec
  have hb := B.bytes
  have hr := B.returns
  have hts := atoms_spec (ws := sy_w y_Tellings_holding b_Tellings_holding 10 (some .long)) B.pre
  have ht : ∀ wd ∈ sy_T, wd.before ([.ref h0, .long lv, .long ch] : List Value).toArray s = true := fun wd h => hts wd (List.mem_cons_of_mem _ h)
  have hown : s.vm.findClass R_Tellings = some m.cls := findClass_of_methodNamed B.named
  have hlocks := B.notSynchronized
  have hl := lv_entry ([.ref h0, .long lv, .long ch]) (n := 10) (Nat.le_of_ble_eq_true rfl)
  rw [lg_entry_eq]
  generalize (lg_sl ([.ref h0, .long lv, .long ch]) ++ List.replicate (10 - (lg_sl ([.ref h0, .long lv, .long ch])).length) Slot.unset).toArray = ls at hl ⊢
  have hl : lv_has ls 10 [(0, .ref h0), (1, .long lv), (3, .long ch)] := hl
  refine lv_lconst (v := 0) hx hb d_Tellings_holding_0 (by decide) ?_
  refine lv_lstore (lv' := [(5, .long 0), (0, .ref h0), (1, .long lv), (3, .long ch)]) hx hb d_Tellings_holding_1 hl (by decide) rfl (fun ls hl => ?_)
  refine lv_iconst (v := 0) hx hb d_Tellings_holding_3 (by decide) ?_
  refine lv_istore (lv' := [(7, .int 0), (5, .long 0), (0, .ref h0), (1, .long lv), (3, .long ch)]) hx hb d_Tellings_holding_4 hl (by decide) rfl (fun ls hl => ?_)
  refine sy_loop (σ := Nat × Int64) (nL := 10) (fun x6 => match x6 with | (k, f) => n - k) (fun x6 => match x6 with | (k, f) => [(7, .int (nI k)), (5, .long f), (0, .ref h0), (1, .long lv), (3, .long ch)]) (fun x6 => match x6 with | (k, f) => k ≤ n ∧ f = bs_m (tl_pH fI fL n lv ch) k) ?_ (0, (0 : Int64)) ?_ (lv_sub hl [0, 1, 2, 3, 4] rfl)
  · intro x6 ls hI hl ih6
    obtain ⟨k, f⟩ := x6
    have hl : lv_has ls 10 [(7, .int (nI k)), (5, .long f), (0, .ref h0), (1, .long lv), (3, .long ch)] := hl
    obtain ⟨hk, hI⟩ := hI
    refine lv_iload hx hb d_Tellings_holding_6 (lv_at hl 0 rfl) ?_
    refine lv_aload_n hx hb d_Tellings_holding_8 rfl (lv_at hl 2 rfl) ?_
    refine va_get (D := G.1) (ci := 5) (v := .int (nI n)) (C := R_Tellings) (T := F_Tellings) (N := 8) hx hb ht i_Tellings hown hK.1 hP 0 rfl rfl 7 (by decide) (ht _ m_67) (fun _ h9 => h9) rfl d_Tellings_holding_9 ?_
    refine lv_icmp_ge (tgt := 73) hx hb d_Tellings_holding_12 (by decide) (fun c_1 => ?_) (fun c_1 => ?_)
    · have c_1 : n ≤ k := (nI_leI (a := n) (b := k) (by omega) (by omega)).mp c_1
      have c_1n : ¬ k < n := by omega
      refine lv_lload hx hb d_Tellings_holding_73 (lv_at hl 1 rfl) ?_
      exact W.lret (v := f) hx hb hr (fun t ht hW => ⟨f, rfl, by rw [hI, show k = n by omega] <;> rfl, ht⟩) (fun q h => by cases h) d_Tellings_holding_75
    · have c_1 : ¬ n ≤ k := fun h9 => c_1 ((nI_leI (a := n) (b := k) (by omega) (by omega)).mpr h9)
      have c_1n : k < n := by omega
      refine lv_iload hx hb d_Tellings_holding_15 (lv_at hl 0 rfl) ?_
      refine lv_lload_n hx hb d_Tellings_holding_17 rfl (lv_at hl 3 rfl) ?_
      refine vp_callSi (va_Run.run (sy_runSN (As := [.int (nI k), .long lv]) (rest := []) ⟨hx, hb, hml, hown, ht⟩ cl_Tellings_42 (c_DeviceSets_isIn l G k lv) hK trivial rfl nm_DeviceSets_isIn rfl rfl ⟨Nat.le_of_ble_eq_true rfl, Nat.le_of_ble_eq_true rfl⟩ hl.1 (Nat.le_of_ble_eq_true rfl) d_Tellings_holding_18 ⟨Nat.zero_le _, Nat.zero_le _⟩)) (fun r_2 hr_2 => ?_)
      subst hr_2
      refine lv_if_eq (tgt := 67) hx hb d_Tellings_holding_21 (by decide) (fun c_3 => ?_) (fun c_3 => ?_)
      · have c_3 : (bs_in lv k) = false := bI_f c_3
        refine lv_iinc (v := nI (k + 1)) (lv' := [(7, .int (nI (k + 1))), (5, .long f), (0, .ref h0), (1, .long lv), (3, .long ch)]) hx hb d_Tellings_holding_67 hl (k := 0) rfl (nI_add k 1) (by decide) rfl (fun ls hl => ?_)
        refine lv_goto (tgt := 6) hx hb d_Tellings_holding_70 (by decide) ?_
        refine ih6 (k + 1, f) ls (show n - (k + 1) < n - k by omega) ?_ (lv_sub hl [0, 1, 2, 3, 4] rfl)
        exact ⟨by omega, by first | (rw [bs_m, if_pos (by simp [tl_pH, c_1, c_1n, c_3]; done), ← hI]; done) | (rw [bs_m, if_neg (by simp [tl_pH, c_1, c_1n, c_3]; done), ← hI])⟩
      · have c_3 : (bs_in lv k) = true := bI_t c_3
        refine lv_aload_n hx hb d_Tellings_holding_24 rfl (lv_at hl 2 rfl) ?_
        refine lv_iload hx hb d_Tellings_holding_25 (lv_at hl 0 rfl) ?_
        refine lv_lload_n hx hb d_Tellings_holding_27 rfl (lv_at hl 3 rfl) ?_
        refine vp_callSl (va_Run.run (sy_runV (As := [.int (nI k), .long lv]) (rest := []) (b := h0) ⟨hx, hb, hml, hown, ht⟩ cl_Tellings_46 (c_Tellings_ofKeyOf l G h0 ad n fI fL k lv (by omega) (by omega)) hK hP (va_recv hK.1 hP (ci := 5) (q0 := 0) rfl rfl) rfl nm_Tellings_ofKeyOf rfl rfl ⟨Nat.le_of_ble_eq_true rfl, Nat.le_of_ble_eq_true rfl⟩ hl.1 (Nat.le_of_ble_eq_true rfl) d_Tellings_holding_28 ⟨Nat.zero_le _, Nat.zero_le _⟩)) (fun r_4 hr_4 => ?_)
        subst hr_4
        refine lv_lstore (lv' := [(8, .long (tl_key fI n k lv)), (7, .int (nI k)), (5, .long f), (0, .ref h0), (1, .long lv), (3, .long ch)]) hx hb d_Tellings_holding_31 hl (by decide) rfl (fun ls hl => ?_)
        refine lv_lload hx hb d_Tellings_holding_33 (lv_at hl 0 rfl) ?_
        refine lv_iload hx hb d_Tellings_holding_35 (lv_at hl 1 rfl) ?_
        refine vp_callSl (va_Run.run (sy_runSN (As := [.int (nI k)]) (rest := [.long (tl_key fI n k lv)]) ⟨hx, hb, hml, hown, ht⟩ cl_Tellings_38 (c_DeviceSets_bit l G k) hK trivial rfl nm_DeviceSets_bit rfl rfl ⟨Nat.le_of_ble_eq_true rfl, Nat.le_of_ble_eq_true rfl⟩ hl.1 (Nat.le_of_ble_eq_true rfl) d_Tellings_holding_37 ⟨Nat.zero_le _, Nat.zero_le _⟩)) (fun r_5 hr_5 => ?_)
        subst hr_5
        refine sy_lc_eq (tgt := 57) hx hb d_Tellings_holding_40 d_Tellings_holding_41 (by decide) (fun c_6 => ?_) (fun c_6 => ?_)
        · refine lv_lload hx hb d_Tellings_holding_57 (lv_at hl 2 rfl) ?_
          refine lv_iload hx hb d_Tellings_holding_59 (lv_at hl 1 rfl) ?_
          refine vp_callSl (va_Run.run (sy_runSN (As := [.int (nI k)]) (rest := [.long f]) ⟨hx, hb, hml, hown, ht⟩ cl_Tellings_38 (c_DeviceSets_bit l G k) hK trivial rfl nm_DeviceSets_bit rfl rfl ⟨Nat.le_of_ble_eq_true rfl, Nat.le_of_ble_eq_true rfl⟩ hl.1 (Nat.le_of_ble_eq_true rfl) d_Tellings_holding_61 ⟨Nat.zero_le _, Nat.zero_le _⟩)) (fun r_7 hr_7 => ?_)
          subst hr_7
          refine lv_lor hx hb d_Tellings_holding_64 ?_
          refine lv_lstore (lv' := [(5, .long (f ||| (bs_b k))), (8, .long (tl_key fI n k lv)), (7, .int (nI k)), (0, .ref h0), (1, .long lv), (3, .long ch)]) hx hb d_Tellings_holding_65 hl (by decide) rfl (fun ls hl => ?_)
          refine lv_iinc (v := nI (k + 1)) (lv' := [(7, .int (nI (k + 1))), (5, .long (f ||| (bs_b k))), (8, .long (tl_key fI n k lv)), (0, .ref h0), (1, .long lv), (3, .long ch)]) hx hb d_Tellings_holding_67 hl (k := 2) rfl (nI_add k 1) (by decide) rfl (fun ls hl => ?_)
          refine lv_goto (tgt := 6) hx hb d_Tellings_holding_70 (by decide) ?_
          refine ih6 (k + 1, f ||| (bs_b k)) ls (show n - (k + 1) < n - k by omega) ?_ (lv_sub hl [0, 1, 3, 4, 5] rfl)
          exact ⟨by omega, by first | (rw [bs_m, if_pos (by simp [tl_pH, c_1, c_1n, c_3, c_6]; done), ← hI]; done) | (rw [bs_m, if_neg (by simp [tl_pH, c_1, c_1n, c_3, c_6]; done), ← hI])⟩
        · refine lv_aload_n hx hb d_Tellings_holding_44 rfl (lv_at hl 3 rfl) ?_
          refine lv_lload hx hb d_Tellings_holding_45 (lv_at hl 0 rfl) ?_
          refine lv_lload_n hx hb d_Tellings_holding_47 rfl (lv_at hl 5 rfl) ?_
          refine lv_land hx hb d_Tellings_holding_48 ?_
          refine vp_callSi (va_Run.run (sy_runV (As := [.long ((tl_key fI n k lv) &&& ch)]) (rest := []) (b := h0) ⟨hx, hb, hml, hown, ht⟩ cl_Tellings_52 (c_Tellings_first l G h0 ad n fI fL ((tl_key fI n k lv) &&& ch) (by omega)) hK hP (va_recv hK.1 hP (ci := 5) (q0 := 0) rfl rfl) rfl nm_Tellings_first rfl rfl ⟨Nat.le_of_ble_eq_true rfl, Nat.le_of_ble_eq_true rfl⟩ hl.1 (Nat.le_of_ble_eq_true rfl) d_Tellings_holding_49 ⟨Nat.zero_le _, Nat.zero_le _⟩)) (fun r_8 hr_8 => ?_)
          obtain ⟨o_9, ho_9, hr_8⟩ := sy_opt hr_8
          subst hr_8
          refine lv_iload hx hb d_Tellings_holding_52 (lv_at hl 1 rfl) ?_
          rcases o_9 with _ | j_11
          · have hl : lv_has ls 10 [(8, .long (tl_key fI n k lv)), (7, .int (nI k)), (5, .long f), (0, .ref h0), (1, .long lv), (3, .long ch)] := hl
            refine lv_icmp_ne (tgt := 67) hx hb d_Tellings_holding_54 (by decide) (fun c_12 => ?_) (fun c_12 => absurd c_12.symm (oI_ne (by omega)))
            refine lv_iinc (v := nI (k + 1)) (lv' := [(7, .int (nI (k + 1))), (8, .long (tl_key fI n k lv)), (5, .long f), (0, .ref h0), (1, .long lv), (3, .long ch)]) hx hb d_Tellings_holding_67 hl (k := 1) rfl (nI_add k 1) (by decide) rfl (fun ls hl => ?_)
            refine lv_goto (tgt := 6) hx hb d_Tellings_holding_70 (by decide) ?_
            refine ih6 (k + 1, f) ls (show n - (k + 1) < n - k by omega) ?_ (lv_sub hl [0, 2, 3, 4, 5] rfl)
            exact ⟨by omega, by first | (rw [bs_m, if_pos (by simp [tl_pH, c_1, c_1n, c_3, c_6, ← ho_9, c_12]; done), ← hI]; done) | (rw [bs_m, if_neg (by simp [tl_pH, c_1, c_1n, c_3, c_6, ← ho_9, c_12]; done), ← hI])⟩
          · have hl : lv_has ls 10 [(8, .long (tl_key fI n k lv)), (7, .int (nI k)), (5, .long f), (0, .ref h0), (1, .long lv), (3, .long ch)] := hl
            have hj_11 : j_11 < 60 := by have := nn_fm_lt ho_9.symm; omega
            refine lv_icmp_ne (tgt := 67) hx hb d_Tellings_holding_54 (by decide) (fun c_13 => ?_) (fun c_13 => ?_)
            · have c_13 : ¬ j_11 = k := fun h9 => c_13 ((nI_eq (a := j_11) (b := k) (by omega) (by omega)).mpr h9)
              refine lv_iinc (v := nI (k + 1)) (lv' := [(7, .int (nI (k + 1))), (8, .long (tl_key fI n k lv)), (5, .long f), (0, .ref h0), (1, .long lv), (3, .long ch)]) hx hb d_Tellings_holding_67 hl (k := 1) rfl (nI_add k 1) (by decide) rfl (fun ls hl => ?_)
              refine lv_goto (tgt := 6) hx hb d_Tellings_holding_70 (by decide) ?_
              refine ih6 (k + 1, f) ls (show n - (k + 1) < n - k by omega) ?_ (lv_sub hl [0, 2, 3, 4, 5] rfl)
              exact ⟨by omega, by first | (rw [bs_m, if_pos (by simp [tl_pH, c_1, c_1n, c_3, c_6, ← ho_9, c_13]; done), ← hI]; done) | (rw [bs_m, if_neg (by simp [tl_pH, c_1, c_1n, c_3, c_6, ← ho_9, c_13]; done), ← hI])⟩
            · have c_13 : j_11 = k := (nI_eq (a := j_11) (b := k) (by omega) (by omega)).mp c_13
              refine lv_lload hx hb d_Tellings_holding_57 (lv_at hl 2 rfl) ?_
              refine lv_iload hx hb d_Tellings_holding_59 (lv_at hl 1 rfl) ?_
              refine vp_callSl (va_Run.run (sy_runSN (As := [.int (nI k)]) (rest := [.long f]) ⟨hx, hb, hml, hown, ht⟩ cl_Tellings_38 (c_DeviceSets_bit l G k) hK trivial rfl nm_DeviceSets_bit rfl rfl ⟨Nat.le_of_ble_eq_true rfl, Nat.le_of_ble_eq_true rfl⟩ hl.1 (Nat.le_of_ble_eq_true rfl) d_Tellings_holding_61 ⟨Nat.zero_le _, Nat.zero_le _⟩)) (fun r_14 hr_14 => ?_)
              subst hr_14
              refine lv_lor hx hb d_Tellings_holding_64 ?_
              refine lv_lstore (lv' := [(5, .long (f ||| (bs_b k))), (8, .long (tl_key fI n k lv)), (7, .int (nI k)), (0, .ref h0), (1, .long lv), (3, .long ch)]) hx hb d_Tellings_holding_65 hl (by decide) rfl (fun ls hl => ?_)
              refine lv_iinc (v := nI (k + 1)) (lv' := [(7, .int (nI (k + 1))), (5, .long (f ||| (bs_b k))), (8, .long (tl_key fI n k lv)), (0, .ref h0), (1, .long lv), (3, .long ch)]) hx hb d_Tellings_holding_67 hl (k := 2) rfl (nI_add k 1) (by decide) rfl (fun ls hl => ?_)
              refine lv_goto (tgt := 6) hx hb d_Tellings_holding_70 (by decide) ?_
              refine ih6 (k + 1, f ||| (bs_b k)) ls (show n - (k + 1) < n - k by omega) ?_ (lv_sub hl [0, 1, 3, 4, 5] rfl)
              exact ⟨by omega, by first | (rw [bs_m, if_pos (by simp [tl_pH, c_1, c_1n, c_3, c_6, ← ho_9, c_13]; done), ← hI]; done) | (rw [bs_m, if_neg (by simp [tl_pH, c_1, c_1n, c_3, c_6, ← ho_9, c_13]; done), ← hI])⟩
  · exact ⟨Nat.zero_le _, rfl⟩
set_option maxHeartbeats 4000000 in
set_option maxRecDepth 100000 in
theorem c_Tellings_sumOfKind (l : Launch) (G : sy_G) (h0 : Nat) (ad : Nat → Nat) (n : Nat) (fI : Nat → Nat → Int32) (fL : Nat → Nat → Int64) (am : Int64) (kd : Int32) (hn : n ≤ 60) : Met l y_Tellings_sumOfKind (sy_w y_Tellings_sumOfKind b_Tellings_sumOfKind 7 (some .long)) { frames := 2, cells := 0, slots := 0, locals := 42 } (va_Pc [.ref h0, .long am, .int kd] (sy_KP G (va_P G.1 classes (tw G.2 h0 ad n fI fL)))) (vp_Sl (fun r => r = tl_sum fI fL n am kd)) 0 0 (fun _ => False) := by
  refine Met.ofW (cc := b_Tellings_sumOfKind) (maxL := 7) (ret := (some .long)) (by decide) rfl ?_
  intro p e s m args below meth c s₁ B hml hv
  obtain ⟨rfl, hP, hK⟩ := hv
  have hx := B.exec
  have hb := B.bytes
  have hr := B.returns
  have hts := atoms_spec (ws := sy_w y_Tellings_sumOfKind b_Tellings_sumOfKind 7 (some .long)) B.pre
  have ht : ∀ wd ∈ sy_T, wd.before ([.ref h0, .long am, .int kd] : List Value).toArray s = true := fun wd h => hts wd (List.mem_cons_of_mem _ h)
  have hown : s.vm.findClass R_Tellings = some m.cls := findClass_of_methodNamed B.named
  have hlocks := B.notSynchronized
  have hl := lv_entry ([.ref h0, .long am, .int kd]) (n := 7) (Nat.le_of_ble_eq_true rfl)
  rw [lg_entry_eq]
  generalize (lg_sl ([.ref h0, .long am, .int kd]) ++ List.replicate (7 - (lg_sl ([.ref h0, .long am, .int kd])).length) Slot.unset).toArray = ls at hl ⊢
  have hl : lv_has ls 7 [(0, .ref h0), (1, .long am), (3, .int kd)] := hl
  refine lv_lconst (v := 0) hx hb d_Tellings_sumOfKind_0 (by decide) ?_
  refine lv_lstore (lv' := [(4, .long 0), (0, .ref h0), (1, .long am), (3, .int kd)]) hx hb d_Tellings_sumOfKind_1 hl (by decide) rfl (fun ls hl => ?_)
  refine lv_iconst (v := 0) hx hb d_Tellings_sumOfKind_3 (by decide) ?_
  refine lv_istore (lv' := [(6, .int 0), (4, .long 0), (0, .ref h0), (1, .long am), (3, .int kd)]) hx hb d_Tellings_sumOfKind_4 hl (by decide) rfl (fun ls hl => ?_)
  refine sy_loop (σ := Nat × Int64) (nL := 7) (fun x6 => match x6 with | (k, f) => n - k) (fun x6 => match x6 with | (k, f) => [(6, .int (nI k)), (4, .long f), (0, .ref h0), (1, .long am), (3, .int kd)]) (fun x6 => match x6 with | (k, f) => k ≤ n ∧ f = nn_sm (tl_pW fI am kd) (fL 1) k) ?_ (0, (0 : Int64)) ?_ (lv_sub hl [0, 1, 2, 3, 4] rfl)
  · intro x6 ls hI hl ih6
    obtain ⟨k, f⟩ := x6
    have hl : lv_has ls 7 [(6, .int (nI k)), (4, .long f), (0, .ref h0), (1, .long am), (3, .int kd)] := hl
    obtain ⟨hk, hI⟩ := hI
    refine lv_iload hx hb d_Tellings_sumOfKind_6 (lv_at hl 0 rfl) ?_
    refine lv_aload_n hx hb d_Tellings_sumOfKind_8 rfl (lv_at hl 2 rfl) ?_
    refine va_get (D := G.1) (ci := 5) (v := .int (nI n)) (C := R_Tellings) (T := F_Tellings) (N := 8) hx hb ht i_Tellings hown hK.1 hP 0 rfl rfl 7 (by decide) (ht _ m_67) (fun _ h9 => h9) rfl d_Tellings_sumOfKind_9 ?_
    refine lv_icmp_ge (tgt := 53) hx hb d_Tellings_sumOfKind_12 (by decide) (fun c_1 => ?_) (fun c_1 => ?_)
    · have c_1 : n ≤ k := (nI_leI (a := n) (b := k) (by omega) (by omega)).mp c_1
      have c_1n : ¬ k < n := by omega
      refine lv_lload hx hb d_Tellings_sumOfKind_53 (lv_at hl 1 rfl) ?_
      exact W.lret (v := f) hx hb hr (fun t ht hW => ⟨f, rfl, by rw [hI, show k = n by omega] <;> rfl, ht⟩) (fun q h => by cases h) d_Tellings_sumOfKind_55
    · have c_1 : ¬ n ≤ k := fun h9 => c_1 ((nI_leI (a := n) (b := k) (by omega) (by omega)).mpr h9)
      have c_1n : k < n := by omega
      refine lv_iload hx hb d_Tellings_sumOfKind_15 (lv_at hl 0 rfl) ?_
      refine lv_lload_n hx hb d_Tellings_sumOfKind_17 rfl (lv_at hl 3 rfl) ?_
      refine vp_callSi (va_Run.run (sy_runSN (As := [.int (nI k), .long am]) (rest := []) ⟨hx, hb, hml, hown, ht⟩ cl_Tellings_42 (c_DeviceSets_isIn l G k am) hK trivial rfl nm_DeviceSets_isIn rfl rfl ⟨Nat.le_of_ble_eq_true rfl, Nat.le_of_ble_eq_true rfl⟩ hl.1 (Nat.le_of_ble_eq_true rfl) d_Tellings_sumOfKind_18 ⟨Nat.zero_le _, Nat.zero_le _⟩)) (fun r_2 hr_2 => ?_)
      subst hr_2
      refine lv_if_eq (tgt := 47) hx hb d_Tellings_sumOfKind_21 (by decide) (fun c_3 => ?_) (fun c_3 => ?_)
      · have c_3 : (bs_in am k) = false := bI_f c_3
        refine lv_iinc (v := nI (k + 1)) (lv' := [(6, .int (nI (k + 1))), (4, .long f), (0, .ref h0), (1, .long am), (3, .int kd)]) hx hb d_Tellings_sumOfKind_47 hl (k := 0) rfl (nI_add k 1) (by decide) rfl (fun ls hl => ?_)
        refine lv_goto (tgt := 6) hx hb d_Tellings_sumOfKind_50 (by decide) ?_
        refine ih6 (k + 1, f) ls (show n - (k + 1) < n - k by omega) ?_ (lv_sub hl [0, 1, 2, 3, 4] rfl)
        exact ⟨by omega, by first | (rw [nn_sm, if_pos (by simp [tl_pW, c_1, c_1n, c_3]; done), ← hI]; done) | (rw [nn_sm, if_neg (by simp [tl_pW, c_1, c_1n, c_3]; done), ← hI])⟩
      · have c_3 : (bs_in am k) = true := bI_t c_3
        refine lv_aload_n hx hb d_Tellings_sumOfKind_24 rfl (lv_at hl 2 rfl) ?_
        refine va_get (D := G.1) (ci := 5) (v := .ref (ad 3)) (C := R_Tellings) (T := F_Tellings) (N := 8) hx hb ht i_Tellings hown hK.1 hP 0 rfl rfl 3 (by decide) (ht _ m_61) (fun _ h9 => h9) rfl d_Tellings_sumOfKind_25 ?_
        refine lv_iload hx hb d_Tellings_sumOfKind_28 (lv_at hl 0 rfl) ?_
        refine sy_iald hx hb hK.1 hP 4 0 rfl rfl (k := k) (by omega) (by decide) d_Tellings_sumOfKind_30 ?_
        refine lv_iload_n hx hb d_Tellings_sumOfKind_31 rfl (lv_at hl 4 rfl) ?_
        refine lv_icmp_ne (tgt := 47) hx hb d_Tellings_sumOfKind_32 (by decide) (fun c_4 => ?_) (fun c_4 => ?_)
        · refine lv_iinc (v := nI (k + 1)) (lv' := [(6, .int (nI (k + 1))), (4, .long f), (0, .ref h0), (1, .long am), (3, .int kd)]) hx hb d_Tellings_sumOfKind_47 hl (k := 0) rfl (nI_add k 1) (by decide) rfl (fun ls hl => ?_)
          refine lv_goto (tgt := 6) hx hb d_Tellings_sumOfKind_50 (by decide) ?_
          refine ih6 (k + 1, f) ls (show n - (k + 1) < n - k by omega) ?_ (lv_sub hl [0, 1, 2, 3, 4] rfl)
          exact ⟨by omega, by first | (rw [nn_sm, if_pos (by simp [tl_pW, c_1, c_1n, c_3, c_4]; done), ← hI]; done) | (rw [nn_sm, if_neg (by simp [tl_pW, c_1, c_1n, c_3, c_4]; done), ← hI])⟩
        · refine lv_lload hx hb d_Tellings_sumOfKind_35 (lv_at hl 1 rfl) ?_
          refine lv_aload_n hx hb d_Tellings_sumOfKind_37 rfl (lv_at hl 2 rfl) ?_
          refine va_get (D := G.1) (ci := 5) (v := .ref (ad 5)) (C := R_Tellings) (T := F_Tellings) (N := 8) hx hb ht i_Tellings hown hK.1 hP 0 rfl rfl 5 (by decide) (ht _ m_64) (fun _ h9 => h9) rfl d_Tellings_sumOfKind_38 ?_
          refine lv_iload hx hb d_Tellings_sumOfKind_41 (lv_at hl 0 rfl) ?_
          refine sy_lald hx hb hK.1 hP 6 1 rfl rfl (k := k) (by omega) (by decide) d_Tellings_sumOfKind_43 ?_
          refine lv_ladd hx hb d_Tellings_sumOfKind_44 ?_
          refine lv_lstore (lv' := [(4, .long (f + (fL 1 k))), (6, .int (nI k)), (0, .ref h0), (1, .long am), (3, .int kd)]) hx hb d_Tellings_sumOfKind_45 hl (by decide) rfl (fun ls hl => ?_)
          refine lv_iinc (v := nI (k + 1)) (lv' := [(6, .int (nI (k + 1))), (4, .long (f + (fL 1 k))), (0, .ref h0), (1, .long am), (3, .int kd)]) hx hb d_Tellings_sumOfKind_47 hl (k := 1) rfl (nI_add k 1) (by decide) rfl (fun ls hl => ?_)
          refine lv_goto (tgt := 6) hx hb d_Tellings_sumOfKind_50 (by decide) ?_
          refine ih6 (k + 1, f + (fL 1 k)) ls (show n - (k + 1) < n - k by omega) ?_ (lv_sub hl [0, 1, 2, 3, 4] rfl)
          exact ⟨by omega, by first | (rw [nn_sm, if_pos (by simp [tl_pW, c_1, c_1n, c_3, c_4]; done), ← hI]; done) | (rw [nn_sm, if_neg (by simp [tl_pW, c_1, c_1n, c_3, c_4]; done), ← hI])⟩
  · exact ⟨Nat.zero_le _, rfl⟩
