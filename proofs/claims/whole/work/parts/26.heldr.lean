set_option maxHeartbeats 4000000 in
set_option maxRecDepth 100000 in
theorem c_Held_isLike (l : Launch) (G : sy_G) (ha : Nat) (hf : Nat → Int64) (hb2 : Nat) (hg : Nat → Int64) : Met l y_Held_isLike (sy_w y_Held_isLike b_Held_isLike 2 (some .boolean)) { frames := 0, cells := 0, slots := 0, locals := 0 } (va_Pc [.ref ha, .ref hb2] (sy_KP G (fun H => (va_P G.1 classes (hw ha hf)) H ∧ (va_P G.1 classes (hw hb2 hg)) H))) (vp_Si (fun r => r = bI (he_like hf hg))) 0 0 (fun _ => False) := by
  refine Met.ofW (cc := b_Held_isLike) (maxL := 2) (ret := (some .boolean)) (by decide) rfl ?_
  intro p e s m args below meth c s₁ B hml hv
  obtain ⟨rfl, ⟨hP, hPG⟩, hK⟩ := hv
  have hx := B.exec
  have hb := B.bytes
  have hr := B.returns
  have hts := atoms_spec (ws := sy_w y_Held_isLike b_Held_isLike 2 (some .boolean)) B.pre
  have ht : ∀ wd ∈ sy_T, wd.before ([.ref ha, .ref hb2] : List Value).toArray s = true := fun wd h => hts wd (List.mem_cons_of_mem _ h)
  have hown : s.vm.findClass R_Held = some m.cls := findClass_of_methodNamed B.named
  have hlocks := B.notSynchronized
  have hl := lv_entry ([.ref ha, .ref hb2]) (n := 2) (Nat.le_of_ble_eq_true rfl)
  rw [lg_entry_eq]
  generalize (lg_sl ([.ref ha, .ref hb2]) ++ List.replicate (2 - (lg_sl ([.ref ha, .ref hb2])).length) Slot.unset).toArray = ls at hl ⊢
  have hl : lv_has ls 2 [(0, .ref ha), (1, .ref hb2)] := hl
  refine lv_aload_n hx hb d_Held_isLike_0 rfl (lv_at hl 0 rfl) ?_
  refine va_get (D := G.1) (ci := 3) (v := .long (hf 0)) (C := R_Held) (T := F_Held) (N := 4) hx hb ht i_Held hown hK.1 hP 0 rfl rfl 0 (by decide) (ht _ m_230) (fun _ h9 => h9) rfl d_Held_isLike_1 ?_
  refine lv_aload_n hx hb d_Held_isLike_4 rfl (lv_at hl 1 rfl) ?_
  refine va_get (D := G.1) (ci := 3) (v := .long (hg 0)) (C := R_Held) (T := F_Held) (N := 4) hx hb ht i_Held hown hK.1 hPG 0 rfl rfl 0 (by decide) (ht _ m_230) (fun _ h9 => h9) rfl d_Held_isLike_5 ?_
  refine sy_lc_ne (tgt := 52) hx hb d_Held_isLike_8 d_Held_isLike_9 (by decide) (fun c_1 => ?_) (fun c_1 => ?_)
  · refine lv_iconst (v := 0) hx hb d_Held_isLike_52 (by decide) ?_
    exact W.zret (v := (0 : Int32)) hx hb hr (rfl) (fun t ht hW => ⟨(0 : Int32), rfl, by simp [bI, he_like, c_1], ht⟩) (fun q h => by cases h) d_Held_isLike_53
  · refine lv_aload_n hx hb d_Held_isLike_12 rfl (lv_at hl 0 rfl) ?_
    refine va_get (D := G.1) (ci := 3) (v := .long (hf 1)) (C := R_Held) (T := F_Held) (N := 4) hx hb ht i_Held hown hK.1 hP 0 rfl rfl 1 (by decide) (ht _ m_232) (fun _ h9 => h9) rfl d_Held_isLike_13 ?_
    refine lv_aload_n hx hb d_Held_isLike_16 rfl (lv_at hl 1 rfl) ?_
    refine va_get (D := G.1) (ci := 3) (v := .long (hg 1)) (C := R_Held) (T := F_Held) (N := 4) hx hb ht i_Held hown hK.1 hPG 0 rfl rfl 1 (by decide) (ht _ m_232) (fun _ h9 => h9) rfl d_Held_isLike_17 ?_
    refine sy_lc_ne (tgt := 52) hx hb d_Held_isLike_20 d_Held_isLike_21 (by decide) (fun c_2 => ?_) (fun c_2 => ?_)
    · refine lv_iconst (v := 0) hx hb d_Held_isLike_52 (by decide) ?_
      exact W.zret (v := (0 : Int32)) hx hb hr (rfl) (fun t ht hW => ⟨(0 : Int32), rfl, by simp [bI, he_like, c_1, c_2], ht⟩) (fun q h => by cases h) d_Held_isLike_53
    · refine lv_aload_n hx hb d_Held_isLike_24 rfl (lv_at hl 0 rfl) ?_
      refine va_get (D := G.1) (ci := 3) (v := .long (hf 2)) (C := R_Held) (T := F_Held) (N := 4) hx hb ht i_Held hown hK.1 hP 0 rfl rfl 2 (by decide) (ht _ m_234) (fun _ h9 => h9) rfl d_Held_isLike_25 ?_
      refine lv_aload_n hx hb d_Held_isLike_28 rfl (lv_at hl 1 rfl) ?_
      refine va_get (D := G.1) (ci := 3) (v := .long (hg 2)) (C := R_Held) (T := F_Held) (N := 4) hx hb ht i_Held hown hK.1 hPG 0 rfl rfl 2 (by decide) (ht _ m_234) (fun _ h9 => h9) rfl d_Held_isLike_29 ?_
      refine sy_lc_ne (tgt := 52) hx hb d_Held_isLike_32 d_Held_isLike_33 (by decide) (fun c_3 => ?_) (fun c_3 => ?_)
      · refine lv_iconst (v := 0) hx hb d_Held_isLike_52 (by decide) ?_
        exact W.zret (v := (0 : Int32)) hx hb hr (rfl) (fun t ht hW => ⟨(0 : Int32), rfl, by simp [bI, he_like, c_1, c_2, c_3], ht⟩) (fun q h => by cases h) d_Held_isLike_53
      · refine lv_aload_n hx hb d_Held_isLike_36 rfl (lv_at hl 0 rfl) ?_
        refine va_get (D := G.1) (ci := 3) (v := .long (hf 3)) (C := R_Held) (T := F_Held) (N := 4) hx hb ht i_Held hown hK.1 hP 0 rfl rfl 3 (by decide) (ht _ m_236) (fun _ h9 => h9) rfl d_Held_isLike_37 ?_
        refine lv_aload_n hx hb d_Held_isLike_40 rfl (lv_at hl 1 rfl) ?_
        refine va_get (D := G.1) (ci := 3) (v := .long (hg 3)) (C := R_Held) (T := F_Held) (N := 4) hx hb ht i_Held hown hK.1 hPG 0 rfl rfl 3 (by decide) (ht _ m_236) (fun _ h9 => h9) rfl d_Held_isLike_41 ?_
        refine sy_lc_ne (tgt := 52) hx hb d_Held_isLike_44 d_Held_isLike_45 (by decide) (fun c_4 => ?_) (fun c_4 => ?_)
        · refine lv_iconst (v := 0) hx hb d_Held_isLike_52 (by decide) ?_
          exact W.zret (v := (0 : Int32)) hx hb hr (rfl) (fun t ht hW => ⟨(0 : Int32), rfl, by simp [bI, he_like, c_1, c_2, c_3, c_4], ht⟩) (fun q h => by cases h) d_Held_isLike_53
        · refine lv_iconst (v := 1) hx hb d_Held_isLike_48 (by decide) ?_
          refine lv_goto (tgt := 53) hx hb d_Held_isLike_49 (by decide) ?_
          exact W.zret (v := (1 : Int32)) hx hb hr (rfl) (fun t ht hW => ⟨(1 : Int32), rfl, by simp [bI, he_like, c_1, c_2, c_3, c_4], ht⟩) (fun q h => by cases h) d_Held_isLike_53
