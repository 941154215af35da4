set_option maxHeartbeats 4000000 in
set_option maxRecDepth 100000 in
theorem c_Model_common (l : Launch) (G : sy_G) (a : Nat) (b : Nat) (ha : a < 2 ^ 63) (hb2 : b < 2 ^ 63) : Met l y_Model_common (sy_w y_Model_common b_Model_common 10 (some .long)) { frames := 0, cells := 0, slots := 0, locals := 0 } (va_Pc [.long (lN a), .long (lN b)] (sy_KP G (fun _ => True))) (vp_Sl (fun r => r = lN (Nat.gcd a b))) 0 0 (fun _ => False) := by
  refine Met.ofW (cc := b_Model_common) (maxL := 10) (ret := (some .long)) (by decide) rfl ?_
  intro p e s m args below meth c s₁ B hml hv
  obtain ⟨rfl, hP, hK⟩ := hv
  have hx := B.exec
  have hb := B.bytes
  have hr := B.returns
  have hts := atoms_spec (ws := sy_w y_Model_common b_Model_common 10 (some .long)) B.pre
  have ht : ∀ wd ∈ sy_T, wd.before ([.long (lN a), .long (lN b)] : List Value).toArray s = true := fun wd h => hts wd (List.mem_cons_of_mem _ h)
  have hown : s.vm.findClass R_Model = some m.cls := findClass_of_methodNamed B.named
  have hlocks := B.notSynchronized
  have hl := lv_entry ([.long (lN a), .long (lN b)]) (n := 10) (Nat.le_of_ble_eq_true rfl)
  rw [lg_entry_eq]
  generalize (lg_sl ([.long (lN a), .long (lN b)]) ++ List.replicate (10 - (lg_sl ([.long (lN a), .long (lN b)])).length) Slot.unset).toArray = ls at hl ⊢
  have hl : lv_has ls 10 [(0, .long (lN a)), (2, .long (lN b))] := hl
  refine lv_lload_n hx hb d_Model_common_0 rfl (lv_at hl 0 rfl) ?_
  refine lv_lstore (lv' := [(4, .long (lN a)), (0, .long (lN a)), (2, .long (lN b))]) hx hb d_Model_common_1 hl (by decide) rfl (fun ls hl => ?_)
  refine lv_lload_n hx hb d_Model_common_3 rfl (lv_at hl 2 rfl) ?_
  refine lv_lstore (lv' := [(6, .long (lN b)), (4, .long (lN a)), (0, .long (lN a)), (2, .long (lN b))]) hx hb d_Model_common_4 hl (by decide) rfl (fun ls hl => ?_)
  refine sy_loop (σ := Nat × Nat) (nL := 10) (fun x6 => match x6 with | (u, v) => u) (fun x6 => match x6 with | (u, v) => [(4, .long (lN u)), (6, .long (lN v))]) (fun x6 => match x6 with | (u, v) => u < 2 ^ 63 ∧ v < 2 ^ 63 ∧ Nat.gcd u v = Nat.gcd a b) ?_ (a, b) ?_ (lv_sub hl [1, 0] rfl)
  · intro x6 ls hI hl ih6
    obtain ⟨u, v⟩ := x6
    have hl : lv_has ls 10 [(4, .long (lN u)), (6, .long (lN v))] := hl
    obtain ⟨hu, hv, hI⟩ := hI
    refine lv_lload hx hb d_Model_common_6 (lv_at hl 0 rfl) ?_
    refine lv_lconst (v := 0) hx hb d_Model_common_8 (by decide) ?_
    refine sy_lc_eq (tgt := 31) hx hb d_Model_common_9 d_Model_common_10 (by decide) (fun c_1 => ?_) (fun c_1 => ?_)
    · refine lv_lload hx hb d_Model_common_31 (lv_at hl 1 rfl) ?_
      exact W.lret (v := lN v) hx hb hr (fun t ht hW => ⟨lN v, rfl, by rw [← hI, show u = 0 from (pk_lEQ hu (by omega)).mp (show lN u = lN 0 from c_1), Nat.gcd_zero_left], ht⟩) (fun q h => by cases h) d_Model_common_33
    · refine lv_lload hx hb d_Model_common_13 (lv_at hl 1 rfl) ?_
      refine lv_lload hx hb d_Model_common_15 (lv_at hl 0 rfl) ?_
      refine lv_lrem hx hb d_Model_common_17 (by assumption) ?_
      have hu0 : 0 < u := Nat.pos_of_ne_zero (fun h9 => c_1 (by rw [h9]; rfl))
      refine sy_tl (y := lN (v % u)) (pk_lRem (by omega) hu0 (by omega)) ?_
      refine lv_lstore (lv' := [(8, .long (lN (v % u))), (4, .long (lN u)), (6, .long (lN v))]) hx hb d_Model_common_18 hl (by decide) rfl (fun ls hl => ?_)
      refine lv_lload hx hb d_Model_common_20 (lv_at hl 1 rfl) ?_
      refine lv_lstore (lv' := [(6, .long (lN u)), (8, .long (lN (v % u))), (4, .long (lN u))]) hx hb d_Model_common_22 hl (by decide) rfl (fun ls hl => ?_)
      refine lv_lload hx hb d_Model_common_24 (lv_at hl 1 rfl) ?_
      refine lv_lstore (lv' := [(4, .long (lN (v % u))), (6, .long (lN u)), (8, .long (lN (v % u)))]) hx hb d_Model_common_26 hl (by decide) rfl (fun ls hl => ?_)
      refine lv_goto (tgt := 6) hx hb d_Model_common_28 (by decide) ?_
      refine ih6 ((v % u), u) ls (show v % u < u from Nat.mod_lt _ hu0) ?_ (lv_sub hl [0, 1] rfl)
      exact ⟨by have := Nat.mod_lt v hu0; omega, hu, by rw [← hI, Nat.gcd_rec u v]⟩
  · exact ⟨ha, hb2, rfl⟩
