theorem LW.up {s : State} {G : sy_G} {g : Nat → Nat} {cx : cs} {ob : Nat} {ad : Nat → Nat} {sc : Nat → Nat} {mI : Nat → Nat → Int32} {mL : Nat → Nat → Int64} {mZ : Nat → Nat → Bool} {n n2 : Nat} {H : Heap} {locs : List Loc} (h : LW s G g cx ob ad sc mI mL mZ n H locs) (hn : n ≤ n2) : LW s G g cx ob ad sc mI mL mZ n2 H locs := ⟨h.1, h.2.1, h.2.2.1, h.2.2.2.1, h.2.2.2.2.1, h.2.2.2.2.2.1, h.2.2.2.2.2.2.1, Nat.le_trans h.2.2.2.2.2.2.2 hn⟩
set_option maxHeartbeats 4000000 in
set_option maxRecDepth 100000 in
theorem law_loop {p : Program} {l : Launch} {e : Env} {s : State} {m : MethodId} {below : List Frame} {meth : Method} {c : Code} {b L : Nat} {xs : Nat → Int32} (hL : L ≤ 5632) (C0 : lw_At p s m meth c b L xs) {G : sy_G} (hK : sy_K G s) {ob : Nat} {ad : Nat → Nat} :
    ∀ (n i : Nat), i ≤ L → L + 1 ≤ i + n → ∀ (g : Nat → Nat) (cx : cs) (sc : Nat → Nat) (mI : Nat → Nat → Int32) (mL : Nat → Nat → Int64) (mZ : Nat → Nat → Bool) (H : Heap) (locs : List Loc), LW s G g cx ob ad sc mI mL mZ i H locs → ∀ ls : Array Slot, lv_has ls 4 [(3, .int (nI i)), (2, .ref ob), (1, .ref (g 0)), (0, .ref b)] → W p l e room_1 s m #[Value.ref b] below meth c H locs (fc cx) (fs cx) (lw_Z below #[Value.ref b] s) (F0 m 18 ls []) := by
  obtain ⟨hx, hb, hr, hml, hown0, hts, hX, hbl, hlocks, hgv⟩ := id C0
  have hbA : ¬ (fun q : Nat => s.heap.size ≤ q) b := Nat.not_le.mpr hbl
  intro n
  induction n with
  | zero => intro i h1 h2; exact absurd h2 (by omega)
  | succ n ih =>
    intro i hiL hin g cx sc mI mL mZ H locs hLW ls hl
    obtain ⟨hSP, hSD, hM, hMD, hap, hS, hR, h4n⟩ := id hLW
    have b0 := hR.b0
    have b3 := hR.b3
    refine lv_iload_n hx hb d_Law_law_18 rfl (lv_at hl 0 rfl) ?_
    refine lv_aload_n hx hb d_Law_law_19 rfl (lv_at hl 3 rfl) ?_
    refine va_slen hx hb hX hbl hbA hS d_Law_law_20 ?_
    refine lv_bipush (v := 11) hx hb d_Law_law_21 (by decide) ?_
    refine lv_isub hx hb d_Law_law_23 ?_
    have hti : (nI i).toInt = (i : Int) := nI_toInt (by omega)
    have htL : (Int32.ofNat L - 11).toInt = (L : Int) - (11 : Nat) := pk_sub_toInt (a := L) (b := 11) (by omega) (by omega)
    refine lv_icmp_gt (tgt := 1390) hx hb d_Law_law_24 (by decide) (fun c_1 => ?_) (fun c_1 => ?_)
    · refine lv_iconst (v := 1) hx hb d_Law_law_1390 (by decide) ?_
      refine va_forget (fun q hq => hS.2.2 q hq) ?_
      refine W.widen (k := 600000) (n := 7302250) (by unfold fc; omega) (by unfold fs; omega) ?_
      exact lw_ret hx hb hr hlocks d_Law_law_1391
    · have hi11 : i + 11 ≤ L := by rw [Int32.lt_iff_toInt_lt, hti, htL] at c_1; omega
      have kk : ∀ (g9 : Nat → Nat) (cx9 : cs) (sc9 : Nat → Nat) (mI9 : Nat → Nat → Int32) (mL9 : Nat → Nat → Int64) (mZ9 : Nat → Nat → Bool) (H9 : Heap) (locs9 : List Loc), g9 0 = g 0 → LW s G g9 cx9 ob ad sc9 mI9 mL9 mZ9 (i + 1) H9 locs9 → W p l e room_1 s m #[Value.ref b] below meth c H9 locs9 (fc cx9) (fs cx9) (lw_Z below #[Value.ref b] s) (F0 m 1384 ls []) := by
        intro g9 cx9 sc9 mI9 mL9 mZ9 H9 locs9 hg9 hLW9
        refine lv_iinc (v := nI (i + 11)) (lv' := [(3, .int (nI (i + 11))), (2, .ref ob), (1, .ref (g 0)), (0, .ref b)]) hx hb d_Law_law_1384 hl (k := 0) rfl (nI_add i 11) (by decide) rfl (fun ls hl => ?_)
        refine lv_goto (tgt := 18) hx hb d_Law_law_1387 (by decide) ?_
        exact ih (i + 11) (by omega) (by omega) g9 cx9 sc9 mI9 mL9 mZ9 H9 locs9 (hLW9.up (by omega)) ls (by rw [hg9]; exact hl)
      refine lv_aload_n hx hb d_Law_law_27 rfl (lv_at hl 3 rfl) ?_
      refine lv_iload_n hx hb d_Law_law_28 rfl (lv_at hl 0 rfl) ?_
      refine va_sld hx hb hX hbl hbA hS (vp_in_nI (n := i) (by omega) (by omega)) d_Law_law_29 ?_
      refine lv_bipush (v := 31) hx hb d_Law_law_30 (by decide) ?_
      refine lv_iand hx hb d_Law_law_32 ?_
      obtain ⟨j, hj, ej⟩ := pk_andE (xs (nI i).toNatClampNeg) (m := 31) 5 (by decide)
      refine sy_ti (y := nI j) ej ?_
      rcases (show j = 0 ∨ j = 1 ∨ j = 2 ∨ j = 3 ∨ j = 4 ∨ j = 5 ∨ j = 6 ∨ j = 7 ∨ j = 8 ∨ j = 9 ∨ j = 10 ∨ j = 11 ∨ j = 12 ∨ j = 13 ∨ j = 14 ∨ j = 15 ∨ j = 16 ∨ j = 17 ∨ j = 18 ∨ j = 19 ∨ 20 ≤ j by omega) with hj2 | hj2 | hj2 | hj2 | hj2 | hj2 | hj2 | hj2 | hj2 | hj2 | hj2 | hj2 | hj2 | hj2 | hj2 | hj2 | hj2 | hj2 | hj2 | hj2 | hj2
      · subst hj2
        refine sy_ti (y := (0 : Int32)) rfl ?_
        refine lv_tableIn (off := 95) (tgt := 128) hx hb d_Law_law_33 (by decide) (by decide) rfl (by decide) ?_
        exact law_c0 hL C0 hK hi11 hLW hl kk
      · subst hj2
        refine sy_ti (y := (1 : Int32)) rfl ?_
        refine lv_tableIn (off := 108) (tgt := 141) hx hb d_Law_law_33 (by decide) (by decide) rfl (by decide) ?_
        exact law_c1 hL C0 hK hi11 hLW hl kk
      · subst hj2
        refine sy_ti (y := (2 : Int32)) rfl ?_
        refine lv_tableIn (off := 311) (tgt := 344) hx hb d_Law_law_33 (by decide) (by decide) rfl (by decide) ?_
        exact law_c2 hL C0 hK hi11 hLW hl kk
      · subst hj2
        refine sy_ti (y := (3 : Int32)) rfl ?_
        refine lv_tableIn (off := 374) (tgt := 407) hx hb d_Law_law_33 (by decide) (by decide) rfl (by decide) ?_
        exact law_c3 hL C0 hK hi11 hLW hl kk
      · subst hj2
        refine sy_ti (y := (4 : Int32)) rfl ?_
        refine lv_tableIn (off := 397) (tgt := 430) hx hb d_Law_law_33 (by decide) (by decide) rfl (by decide) ?_
        exact law_c4 hL C0 hK hi11 hLW hl kk
      · subst hj2
        refine sy_ti (y := (5 : Int32)) rfl ?_
        refine lv_tableIn (off := 420) (tgt := 453) hx hb d_Law_law_33 (by decide) (by decide) rfl (by decide) ?_
        exact law_c5 hL C0 hK hi11 hLW hl kk
      · subst hj2
        refine sy_ti (y := (6 : Int32)) rfl ?_
        refine lv_tableIn (off := 453) (tgt := 486) hx hb d_Law_law_33 (by decide) (by decide) rfl (by decide) ?_
        exact law_c6 hL C0 hK hi11 hLW hl kk
      · subst hj2
        refine sy_ti (y := (7 : Int32)) rfl ?_
        refine lv_tableIn (off := 624) (tgt := 657) hx hb d_Law_law_33 (by decide) (by decide) rfl (by decide) ?_
        exact law_c7 hL C0 hK hi11 hLW hl kk
      · subst hj2
        refine sy_ti (y := (8 : Int32)) rfl ?_
        refine lv_tableIn (off := 668) (tgt := 701) hx hb d_Law_law_33 (by decide) (by decide) rfl (by decide) ?_
        exact law_c8 hL C0 hK hi11 hLW hl kk
      · subst hj2
        refine sy_ti (y := (9 : Int32)) rfl ?_
        refine lv_tableIn (off := 796) (tgt := 829) hx hb d_Law_law_33 (by decide) (by decide) rfl (by decide) ?_
        exact law_c9 hL C0 hK hi11 hLW hl kk
      · subst hj2
        refine sy_ti (y := (10 : Int32)) rfl ?_
        refine lv_tableIn (off := 839) (tgt := 872) hx hb d_Law_law_33 (by decide) (by decide) rfl (by decide) ?_
        exact law_c10 hL C0 hK hi11 hLW hl kk
      · subst hj2
        refine sy_ti (y := (11 : Int32)) rfl ?_
        refine lv_tableIn (off := 882) (tgt := 915) hx hb d_Law_law_33 (by decide) (by decide) rfl (by decide) ?_
        exact law_c11 hL C0 hK hi11 hLW hl kk
      · subst hj2
        refine sy_ti (y := (12 : Int32)) rfl ?_
        refine lv_tableIn (off := 935) (tgt := 968) hx hb d_Law_law_33 (by decide) (by decide) rfl (by decide) ?_
        exact law_c12 hL C0 hK hi11 hLW hl kk
      · subst hj2
        refine sy_ti (y := (13 : Int32)) rfl ?_
        refine lv_tableIn (off := 968) (tgt := 1001) hx hb d_Law_law_33 (by decide) (by decide) rfl (by decide) ?_
        exact law_c13 hL C0 hK hi11 hLW hl kk
      · subst hj2
        refine sy_ti (y := (14 : Int32)) rfl ?_
        refine lv_tableIn (off := 991) (tgt := 1024) hx hb d_Law_law_33 (by decide) (by decide) rfl (by decide) ?_
        exact law_c14 hL C0 hK hi11 hLW hl kk
      · subst hj2
        refine sy_ti (y := (15 : Int32)) rfl ?_
        refine lv_tableIn (off := 1014) (tgt := 1047) hx hb d_Law_law_33 (by decide) (by decide) rfl (by decide) ?_
        exact law_c15 hL C0 hK hi11 hLW hl kk
      · subst hj2
        refine sy_ti (y := (16 : Int32)) rfl ?_
        refine lv_tableIn (off := 1077) (tgt := 1110) hx hb d_Law_law_33 (by decide) (by decide) rfl (by decide) ?_
        exact law_c16 hL C0 hK hi11 hLW hl kk
      · subst hj2
        refine sy_ti (y := (17 : Int32)) rfl ?_
        refine lv_tableIn (off := 1111) (tgt := 1144) hx hb d_Law_law_33 (by decide) (by decide) rfl (by decide) ?_
        exact law_c17 hL C0 hK hi11 hLW hl kk
      · subst hj2
        refine sy_ti (y := (18 : Int32)) rfl ?_
        refine lv_tableIn (off := 1214) (tgt := 1247) hx hb d_Law_law_33 (by decide) (by decide) rfl (by decide) ?_
        exact law_c18 hL C0 hK hi11 hLW hl kk
      · subst hj2
        refine sy_ti (y := (19 : Int32)) rfl ?_
        refine lv_tableIn (off := 1288) (tgt := 1321) hx hb d_Law_law_33 (by decide) (by decide) rfl (by decide) ?_
        exact law_c19 hL C0 hK hi11 hLW hl kk
      · have hjt : (nI j).toInt = (j : Int) := nI_toInt (by omega)
        refine lv_tableOut (tgt := 1384) hx hb d_Law_law_33 (by omega) (by decide) ?_
        exact kk g cx sc mI mL mZ H locs rfl (hLW.up (by omega))
theorem sys_0 {G : sy_G} {g : Nat → Nat} {H : Heap} (h : va_P G.1 classes (cl_x G.2 g c_0) H) : sys_P G g c_0 H := by
  intro i q hi
  rcases i with k | ⟨d, k⟩ | ⟨j, k⟩
  · exact h k q hi
  · exact absurd ((if_neg (t := (cl_d G.2 g c_0 d)[k]?) (Nat.not_lt_zero d)).symm.trans hi) (by simp)
  · exact absurd ((if_neg (t := (cl_s g c_0 j)[k]?) (Nat.not_lt_zero j)).symm.trans hi) (by simp)
theorem sys_0D {G : sy_G} {g : Nat → Nat} {A : Nat → Prop} (h : va_D A (cl_x G.2 g c_0)) : sys_D A G g c_0 := by
  have K : ∀ i q, sy_cell G.2 g c_0 i = some q → ∃ k, i = sx k ∧ (cl_x G.2 g c_0)[k]? = some q := by
    intro i q hi
    rcases i with k | ⟨d, k⟩ | ⟨j, k⟩
    · exact ⟨k, rfl, hi⟩
    · exact absurd ((if_neg (t := (cl_d G.2 g c_0 d)[k]?) (Nat.not_lt_zero d)).symm.trans hi) (by simp)
    · exact absurd ((if_neg (t := (cl_s g c_0 j)[k]?) (Nat.not_lt_zero j)).symm.trans hi) (by simp)
  refine ⟨fun i j p q hi hj hpq => ?_, fun i q hi => ?_⟩
  · obtain ⟨k, e1, h1⟩ := K i p hi
    obtain ⟨k2, e2, h2⟩ := K j q hj
    rw [e1, e2, h.1 k k2 p q h1 h2 hpq]
  · obtain ⟨k, e1, h1⟩ := K i q hi
    exact h.2 k q h1
theorem sys_0A {G : sy_G} {g : Nat → Nat} {q : Nat} (h : sys_A G g c_0 q) : sy_A (cl_x G.2 g c_0) q := by
  obtain ⟨i, e, hi⟩ := h
  rcases i with k | ⟨d, k⟩ | ⟨j, k⟩
  · exact ⟨k, e, hi⟩
  · exact absurd ((if_neg (t := (cl_d G.2 g c_0 d)[k]?) (Nat.not_lt_zero d)).symm.trans hi) (by simp)
  · exact absurd ((if_neg (t := (cl_s g c_0 j)[k]?) (Nat.not_lt_zero j)).symm.trans hi) (by simp)
theorem sy_apart {A : Nat → Prop} {w1 w2 : va_W} (h : va_D A (w1 ++ w2)) {q : Nat} (h1 : sy_A w1 q) (h2 : sy_A w2 q) : False := by
  obtain ⟨k, e, hk⟩ := h1
  obtain ⟨k2, e2, hk2⟩ := h2
  have l1 := (List.getElem?_eq_some_iff.mp hk).1
  have a1 : (w1 ++ w2)[k]? = some (q, e) := by rw [List.getElem?_append_left l1]; exact hk
  have a2 : (w1 ++ w2)[w1.length + k2]? = some (q, e2) := by rw [List.getElem?_append_right (by omega), show w1.length + k2 - w1.length = k2 by omega]; exact hk2
  have := h.1 k (w1.length + k2) _ _ a1 a2 rfl
  omega
section SYX
variable {p : Program} {l : Launch} {e : Env} {R : Room} {s : State} {m : MethodId} {args : Array Value} {below : List Frame} {meth : Method} {c : Code} {H : Heap} {locs : List Loc} {cells slots : Nat} {Q : State → Prop}
variable {cc : ByteArray} {pc : Nat} {ls : Array Slot} {rest : List Value} {y : MethodName} {bytes : ByteArray} {maxL nL mc ms n idx : Nat} {rm : Room} {Qc : Array Value → State → Outcome → State → Prop} {free : Addr → Prop} {own : String} {b : Addr} {As : List Value} {G : sy_G} {P : Heap → Prop}
theorem sy_runIx (F : CallFix p m c cc nL s args sy_T own) (K : sy_LI own idx y bytes maxL) (hM : Met l y (sy_w y bytes maxL none) rm (va_Pc (.ref b :: As) (fun U => sy_KP G P U ∧ va_AO R_Device U ∧ va_AO R_ToldSet U)) Qc mc ms free) (hk : sy_K G s) (h3 : va_AO R_Device s) (h4 : va_AO R_ToldSet s) (hp : P H) (hy : y.name = "<init>")
    (hn : As.length = n) (hd : sy_nm y n) (hrc : rm.cells = mc) (hrs : rm.slots = ms) (hR : rm.frames + 1 ≤ R.frames ∧ 8 + (maxL + 11) + rm.locals ≤ R.locals) (hsize : ls.size = nL) (hW : (rest.map fun v => v.category).sum ≤ 8) (hdg : decode cc pc = .ok (.invokespecial idx, 3)) (hf : cells + mc ≤ R.cells ∧ slots + ms ≤ R.slots) :
    va_Run p l e R s m args below meth c H locs cells slots mc ms (F0 m pc ls (As.reverse ++ .ref b :: rest)) rest (Qc (Value.ref b :: As).toArray) (free) := by
  obtain ⟨k1, k2, k3, k4⟩ := K
  exact va_runI F hM (cwI n F.2.2.2.2 (sy_giw k1) rfl hrc hrs (F.2.2.2.2 _ k4) (F.2.2.2.2 _ k2) (F.2.2.2.2 _ k3) hy hd hR) ⟨fun a U g mk q => ⟨q.1, ⟨q.2.1.1, sy_K.same (u := U) (U := U.calling g mk a) rfl q.2.1.2⟩, va_AO.moved (u := U) (U := U.calling g mk a) (Vm.Alike.refl U.vm) q.2.2.1, va_AO.moved (u := U) (U := U.calling g mk a) (Vm.Alike.refl U.vm) q.2.2.2⟩, fun U hU hWm => ⟨rfl, ⟨by rw [hU]; exact hp, hk.warm hWm⟩, va_AO.moved hWm.alike h3, va_AO.moved hWm.alike h4⟩⟩ rfl hn hsize rfl (lv_room hW) hdg hf
end SYX
set_option maxHeartbeats 4000000 in
set_option maxRecDepth 100000 in
theorem whole_start {p : Program} {e : Env} {s : State} {m : MethodId} {below : List Frame} {meth : Method} {c : Code} (l : Launch) {b L : Nat} {xs : Nat → Int32} (hL : L ≤ 5632) (C0 : lw_At p s m meth c b L xs) : W p l e room_1 s m #[Value.ref b] below meth c s.heap [] 0 0 (lw_Z below #[Value.ref b] s) (entryFrame m ([Value.ref b] : List Value).toArray 4) := by
  obtain ⟨hx, hb, hr, hml, hown0, hts, hX, hbl, hlocks, hgv⟩ := id C0
  have hown : s.vm.findClass R_Law = some m.cls := hown0
  have ht : ∀ wd ∈ sy_T, wd.before #[Value.ref b] s = true := fun wd h => hts wd (List.mem_filter.mp h).1
  have hA : ∀ q : Nat, s.heap.size ≤ q → (fun q : Nat => s.heap.size ≤ q) q := fun _ h => h
  obtain ⟨G, hK, hAO3, hAO4⟩ := lw_K hts
  have hS : va_S (fun q : Nat => s.heap.size ≤ q) s.heap s.heap [] := va_S.rf
  have hP : va_P G.1 classes [] s.heap := fun k q h => by simp at h
  have hD : va_D (fun q : Nat => s.heap.size ≤ q) [] := ⟨fun i j p q h => by simp at h, fun k q h => by simp at h⟩
  have hl := lv_entry ([.ref b]) (n := 4) (Nat.le_of_ble_eq_true rfl)
  rw [lg_entry_eq]
  generalize (lg_sl ([.ref b]) ++ List.replicate (4 - (lg_sl ([.ref b])).length) Slot.unset).toArray = ls at hl ⊢
  have hl : lv_has ls 4 [(0, .ref b)] := hl
  refine va_new (D := G.1) (ci := 0) (C := R_DeviceSets) (T := F_DeviceSets) (N := 7) hx hb ht i_DeviceSets t_DeviceSets t_DeviceSets_ok hown (ht _ m_40) (ht _ m_41) (ht _ m_30) hK.1 hP hD hS hA rfl (fs := [.null, .null, .null, .null, .int 0, .int 0, .int 0]) nd_DeviceSets (Nat.le_of_ble_eq_true rfl) (Nat.le_of_ble_eq_true rfl) d_Law_law_0 (fun q0 H hP hD hS => ?_)
  have hP : va_P G.1 classes [(q0, .inr (0, [.null, .null, .null, .null, .int 0, .int 0, .int 0]))] H := hP
  have hD : va_D (fun q : Nat => s.heap.size ≤ q) [(q0, .inr (0, [.null, .null, .null, .null, .int 0, .int 0, .int 0]))] := hD
  refine lv_dup hx hb d_Law_law_3 rfl ?_
  have hF9 := va_free (wc := [(q0, .inr (0, [.null, .null, .null, .null, .int 0, .int 0, .int 0]))]) hD hS hA [0] rfl
  refine va_callv (sy_runIx (As := []) (rest := [.ref q0]) (b := q0) ⟨hx, hb, hml, hown, ht⟩ cl_Law_9 (c_DeviceSets_init l G q0 H.size) hK hAO3 hAO4 ⟨hP, sy_any hD, rfl⟩ rfl rfl nm_DeviceSets_init rfl rfl ⟨Nat.le_of_ble_eq_true rfl, Nat.le_of_ble_eq_true rfl⟩ hl.1 (Nat.le_of_ble_eq_true rfl) d_Law_law_4 ⟨Nat.le_of_ble_eq_true rfl, Nat.le_of_ble_eq_true rfl⟩) hS (fun q _ h => hF9 q h) (fun q h => hF9 q h) (fun g t9 H9 locs ht9 hvm9 hw9 hB9 hz9 hk9 hS => ?_)
  rw [ht9] at hB9
  obtain ⟨hP, hD⟩ := va_join (wr := []) hP hD [0] [] rfl rfl rfl (by decide) hk9 hF9 hB9.1 hB9.2
  generalize H9 = H at hP hS ⊢
  have hP : va_P G.1 classes (cl_x G.2 g c_0) H := hP
  have hD : va_D (fun q : Nat => s.heap.size ≤ q) (cl_x G.2 g c_0) := hD
  refine lv_astore_n (lv' := [(1, .ref q0), (0, .ref b)]) hx hb d_Law_law_7 rfl hl (by decide) rfl (fun ls hl => ?_)
  refine va_new (D := G.1) (ci := 7) (C := R_Model) (T := F_Model) (N := 23) hx hb ht i_Model t_Model t_Model_ok hown (ht _ m_499) (ht _ m_500) (ht _ m_33) hK.1 hP hD hS hA rfl (fs := [.int 0, .null, .null, .int 0, .null, .null, .null, .null, .null, .null, .null, .int 0, .null, .int 0, .int 0, .null, .null, .null, .null, .null, .null, .null, .null]) nd_Model (Nat.le_of_ble_eq_true rfl) (Nat.le_of_ble_eq_true rfl) d_Law_law_8 (fun q1 H hP hD hS => ?_)
  refine lv_dup hx hb d_Law_law_11 rfl ?_
  have hPc : va_P G.1 classes [(q1, .inr (7, [.int 0, .null, .null, .int 0, .null, .null, .null, .null, .null, .null, .null, .int 0, .null, .int 0, .int 0, .null, .null, .null, .null, .null, .null, .null, .null]))] H := hP.sub [17] rfl
  have hDc : va_D (fun q : Nat => s.heap.size ≤ q) [(q1, .inr (7, [.int 0, .null, .null, .int 0, .null, .null, .null, .null, .null, .null, .null, .int 0, .null, .int 0, .int 0, .null, .null, .null, .null, .null, .null, .null, .null]))] := hD.sub [17] (by decide) rfl
  have hF9 := va_free (wc := [(q1, .inr (7, [.int 0, .null, .null, .int 0, .null, .null, .null, .null, .null, .null, .null, .int 0, .null, .int 0, .int 0, .null, .null, .null, .null, .null, .null, .null, .null]))]) hD hS hA [17] rfl
  refine va_callv (sy_runI (As := []) (rest := [.ref q1]) (b := q1) ⟨hx, hb, hml, hown, ht⟩ cl_Law_12 (c_Model_init l G q1 H.size) hK ⟨hPc, sy_any hDc, rfl⟩ rfl rfl nm_Model_init rfl rfl ⟨Nat.le_of_ble_eq_true rfl, Nat.le_of_ble_eq_true rfl⟩ hl.1 (Nat.le_of_ble_eq_true rfl) d_Law_law_12 ⟨Nat.le_of_ble_eq_true rfl, Nat.le_of_ble_eq_true rfl⟩) hS (fun q _ h => hF9 q h) (fun q h => hF9 q h) (fun ad t9 H9 locs ht9 hvm9 hw9b hB9 hz9 hk9 hS => ?_)
  rw [ht9] at hB9
  obtain ⟨hP, hD⟩ := va_join (wr := cl_x G.2 g c_0) hP hD [17] [0, 1, 2, 3, 4, 5, 6, 7, 8, 9, 10, 11, 12, 13, 14, 15, 16] rfl rfl rfl (by decide) hk9 hF9 hB9.1 hB9.2
  generalize H9 = H at hP hS ⊢
  have hPx : va_P G.1 classes (cl_x G.2 g c_0) H := hP.sub [0, 1, 2, 3, 4, 5, 6, 7, 8, 9, 10, 11, 12, 13, 14, 15, 16] rfl
  have hDx : va_D (fun q : Nat => s.heap.size ≤ q) (cl_x G.2 g c_0) := hD.sub [0, 1, 2, 3, 4, 5, 6, 7, 8, 9, 10, 11, 12, 13, 14, 15, 16] (by decide) rfl
  have hPm : va_P G.1 classes (mw G.2 q1 ad (fun _ => 0) (va_up (fun _ _ => 0) 14 (op_f 6)) (fun _ _ => 0) (fun _ _ => false)) H := hP.sub [17, 18, 19, 20, 21, 22, 23, 24, 25, 26, 27, 28, 29, 30, 31, 32, 33, 34, 35] rfl
  have hDm : va_D (fun q : Nat => s.heap.size ≤ q) (mw G.2 q1 ad (fun _ => 0) (va_up (fun _ _ => 0) 14 (op_f 6)) (fun _ _ => 0) (fun _ _ => false)) := hD.sub [17, 18, 19, 20, 21, 22, 23, 24, 25, 26, 27, 28, 29, 30, 31, 32, 33, 34, 35] (by decide) rfl
  refine lv_astore_n (lv' := [(2, .ref q1), (1, .ref q0), (0, .ref b)]) hx hb d_Law_law_15 rfl hl (by decide) rfl (fun ls hl => ?_)
  refine lv_iconst (v := 0) hx hb d_Law_law_16 (by decide) ?_
  refine lv_istore_n (lv' := [(3, .int 0), (2, .ref q1), (1, .ref q0), (0, .ref b)]) hx hb d_Law_law_17 rfl hl (by decide) rfl (fun ls hl => ?_)
  have hR : Rel c_0 (fun _ => 0) (va_up (fun _ _ => 0) 14 (op_f 6)) (fun _ _ => 0) (fun _ _ => false) := Rel_0 (fun _ _ => rfl) (fun k i h => by rw [va_up_n h]) (fun i h => by rw [va_up_s]; exact op_f_i 6 i h) (fun _ _ => rfl) (fun _ _ => rfl)
  refine W.widen (k := fc c_0) (n := fs c_0) (Nat.le_of_ble_eq_true rfl) (Nat.le_of_ble_eq_true rfl) ?_
  have hg0 : g 0 = q0 := hw9
  exact law_loop hL C0 hK (L + 1) 0 (Nat.zero_le L) (by omega) g c_0 _ _ _ _ H locs ⟨sys_0 hPx, sys_0D hDx, hPm, hDm, fun q h1 h2 => sy_apart hD (sys_0A h1) h2, hS, hR, Nat.le_refl _⟩ ls (by rw [hg0]; exact hl)
