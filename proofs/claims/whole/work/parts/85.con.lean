set_option maxHeartbeats 4000000 in
set_option maxRecDepth 100000 in
theorem s_retain (l : Launch) (G : sy_G) (g : Nat → Nat) (cx : cs) (hb9 : cs_b cx) (d : Int32) (x : Int64) : Met l y_DeviceSets_retain (sy_w y_DeviceSets_retain b_DeviceSets_retain 7 (some .int)) { frames := 4, cells := 0, slots := 0, locals := 90 } (va_Pc [.ref (g 0), .int d, .long x] (sy_KP G (sy_Sp G g cx))) (va_Qi (S := cs) (fun r u => r = (x_retain cx d x).1 ∧ u = (x_retain cx d x).2) (fun u t => sys_P G g u t.heap) (sys_A G g cx)) 0 0 (sys_A G g cx) := by
  obtain ⟨hd, hs, hn, hc, hm, hb4⟩ := hb9
  by_cases q : mo_ok cx.ns d = true
  · obtain ⟨z, hz, rfl⟩ := mo_ix (by omega) q
    have hcz : (nI z).toNatClampNeg = z := nI_clamp (by omega)
    have e1 : x_retain cx (nI z) x = ((xm_retain cx.nT cx.fL (cx.sh z) x).1, cx.z z (cx.so z) (xm_retain cx.nT cx.fL (cx.sh z) x).2 (cx.sv z)) := by rw [x_retain, if_pos q, hcz]
    rw [e1]
    exact sm_i (c_DeviceSets_retain l G g cx.nd cx.ns cx.nb cx.nT cx.fI cx.fL z (cx.so z) (cx.sh z) (cx.sv z) x hz hs hn) [sx 0, sx 1, sx 2, sx 3, sx 4, sx 5, sx 6, sx 7, sx 8, sx 9, sx 10, ss z 0, ss z 1, ss z 2] (by simp [sx, ss, sd]) (by simp only [List.map_cons, List.map_nil, ce_s hz]; rfl) (fun r u h => ⟨h.1, by rw [h.2]; exact (by simp only [List.map_cons, List.map_nil, ce_sz hz]; rfl)⟩) (ce_z (fun k hk => by rcases (show k = 0 ∨ k = 1 ∨ k = 2 by omega) with e9 | e9 | e9 <;> subst e9 <;> simp [sx, ss, sd]))
  · rw [x_retain, if_neg q]
    exact sm_r (c_DeviceSets_retainN l G g cx.nd cx.ns cx.nb d x (Bool.eq_false_iff.mpr q) hs) (fun H h => sys_x h) (fun r h => h)
set_option maxHeartbeats 4000000 in
set_option maxRecDepth 100000 in
theorem s_settle (l : Launch) (G : sy_G) (g : Nat → Nat) (cx : cs) (hb9 : cs_b cx) (d : Int32) (dv : Int32) (kd : Int32) (wh : Int32) : Met l y_DeviceSets_settle (sy_w y_DeviceSets_settle b_DeviceSets_settle 8 (some .int)) { frames := 5, cells := 0, slots := 0, locals := 120 } (va_Pc [.ref (g 0), .int d, .int dv, .int kd, .int wh] (sy_KP G (sy_Sp G g cx))) (va_Qi (S := cs) (fun r u => r = (x_settle cx d dv kd wh).1 ∧ u = (x_settle cx d dv kd wh).2) (fun u t => sys_P G g u t.heap) (sys_A G g cx)) 0 0 (sys_A G g cx) := by
  obtain ⟨hd, hs, hn, hc, hm, hb4⟩ := hb9
  by_cases q : mo_ok cx.ns d = true
  · obtain ⟨z, hz, rfl⟩ := mo_ix (by omega) q
    have hcz : (nI z).toNatClampNeg = z := nI_clamp (by omega)
    have e1 : x_settle cx (nI z) dv kd wh = ((xm_settle cx.nT cx.fI cx.fL (cx.sh z) dv kd wh).1, cx.z z (cx.so z) (xm_settle cx.nT cx.fI cx.fL (cx.sh z) dv kd wh).2 (cx.sv z)) := by rw [x_settle, if_pos q, hcz]
    rw [e1]
    exact sm_i (c_DeviceSets_settle l G g cx.nd cx.ns cx.nb cx.nT cx.fI cx.fL z (cx.so z) (cx.sh z) (cx.sv z) dv kd wh hz hs hn) [sx 0, sx 1, sx 2, sx 3, sx 4, sx 5, sx 6, sx 7, sx 8, sx 9, sx 10, ss z 0, ss z 1, ss z 2] (by simp [sx, ss, sd]) (by simp only [List.map_cons, List.map_nil, ce_s hz]; rfl) (fun r u h => ⟨h.1, by rw [h.2]; exact (by simp only [List.map_cons, List.map_nil, ce_sz hz]; rfl)⟩) (ce_z (fun k hk => by rcases (show k = 0 ∨ k = 1 ∨ k = 2 by omega) with e9 | e9 | e9 <;> subst e9 <;> simp [sx, ss, sd]))
  · rw [x_settle, if_neg q]
    exact sm_r (c_DeviceSets_settleN l G g cx.nd cx.ns cx.nb d dv kd wh (Bool.eq_false_iff.mpr q) hs) (fun H h => sys_x h) (fun r h => h)
set_option maxHeartbeats 4000000 in
set_option maxRecDepth 100000 in
theorem s_batch (l : Launch) (G : sy_G) (g : Nat → Nat) (cx : cs) (hb9 : cs_b cx) (d : Int32) : Met l y_DeviceSets_batch (sy_w y_DeviceSets_batch b_DeviceSets_batch 3 (some .int)) { frames := 1, cells := 0, slots := 0, locals := 21 } (va_Pc [.ref (g 0), .int d] (sy_KP G (sy_Sp G g cx))) (va_Qi (S := cs) (fun r u => r = (x_batch cx d).1 ∧ u = (x_batch cx d).2) (fun u t => sys_P G g u t.heap) (sys_A G g cx)) 0 0 (sys_A G g cx) := by
  obtain ⟨hd, hs, hn, hc, hm, hb4⟩ := hb9
  by_cases q : mo_ok cx.ns d = true
  · obtain ⟨z, hz, rfl⟩ := mo_ix (by omega) q
    have hcz : (nI z).toNatClampNeg = z := nI_clamp (by omega)
    have e1 : x_batch cx (nI z) = ((xm_batch (cx.so z) cx.nb).1, (cx.z z (xm_batch (cx.so z) cx.nb).2.1 (cx.sh z) (cx.sv z)).b (xm_batch (cx.so z) cx.nb).2.2) := by rw [x_batch, if_pos q, hcz]
    rw [e1]
    exact sm_i (c_DeviceSets_batch l G g cx.nd cx.ns cx.nb cx.nT cx.fI cx.fL z (cx.so z) (cx.sh z) (cx.sv z) hz hs hb4) [sx 0, sx 1, sx 2, sx 3, sx 4, sx 5, sx 6, sx 7, sx 8, sx 9, sx 10, ss z 0, ss z 1, ss z 2] (by simp [sx, ss, sd]) (by simp only [List.map_cons, List.map_nil, ce_s hz]; rfl) (fun r u h => ⟨h.1, by rw [h.2]; exact (by simp only [List.map_cons, List.map_nil, ce_szb hz]; rfl)⟩) (fun i hi => (ce_b (c := cx.z z (xm_batch (cx.so z) cx.nb).2.1 (cx.sh z) (cx.sv z)) (by simp [sx, ss]) i hi).trans (ce_z (fun k hk => by rcases (show k = 0 ∨ k = 1 ∨ k = 2 by omega) with e9 | e9 | e9 <;> subst e9 <;> simp [sx, ss, sd]) i hi))
  · rw [x_batch, if_neg q]
    exact sm_r (c_DeviceSets_batchN l G g cx.nd cx.ns cx.nb d (Bool.eq_false_iff.mpr q) hs) (fun H h => sys_x h) (fun r h => h)
set_option maxHeartbeats 4000000 in
set_option maxRecDepth 100000 in
theorem s_reset (l : Launch) (G : sy_G) (g : Nat → Nat) (cx : cs) (hb9 : cs_b cx) (d : Int32) (x : Int64) : Met l y_DeviceSets_reset (sy_w y_DeviceSets_reset b_DeviceSets_reset 5 (some .boolean)) { frames := 1, cells := 0, slots := 0, locals := 21 } (va_Pc [.ref (g 0), .int d, .long x] (sy_KP G (sy_Sp G g cx))) (va_Qi (S := cs) (fun r u => r = bI (x_reset cx d x).1 ∧ u = (x_reset cx d x).2) (fun u t => sys_P G g u t.heap) (sys_A G g cx)) 0 0 (sys_A G g cx) := by
  obtain ⟨hd, hs, hn, hc, hm, hb4⟩ := hb9
  by_cases q : mo_ok cx.nd d = true
  · obtain ⟨z, hz, rfl⟩ := mo_ix (by omega) q
    have hcz : (nI z).toNatClampNeg = z := nI_clamp (by omega)
    have e1 : x_reset cx (nI z) x = ((xm_reset (cx.dl z) (cx.df z) x).1, cx.d z (xm_reset (cx.dl z) (cx.df z) x).2.1 (xm_reset (cx.dl z) (cx.df z) x).2.2 (cx.dm z) (cx.dk z)) := by rw [x_reset, if_pos q, hcz]
    rw [e1]
    exact sm_i (c_DeviceSets_reset l G g cx.nd cx.ns cx.nb z (cx.dl z) (cx.df z) (cx.dm z) (cx.dk z) x hz hd (hm z hz).1) [sx 0, sx 1, sx 2, sd z 0, sd z 1, sd z 2, sd z 3] (by simp [sx, ss, sd]) (by simp only [List.map_cons, List.map_nil, ce_d hz]; rfl) (fun r u h => ⟨h.1, by rw [h.2]; exact (by simp only [List.map_cons, List.map_nil, ce_dzz hz]; rfl)⟩) (ce_dz (fun k hk => by rcases (show k = 0 ∨ k = 1 ∨ k = 2 ∨ k = 3 by omega) with e9 | e9 | e9 | e9 <;> subst e9 <;> simp [sx, ss, sd]))
  · rw [x_reset, if_neg q]
    exact sm_r (c_DeviceSets_resetN l G g cx.nd cx.ns cx.nb d x (Bool.eq_false_iff.mpr q) hd) (fun H h => sys_x h) (fun r h => h)
set_option maxHeartbeats 4000000 in
set_option maxRecDepth 100000 in
theorem s_mark (l : Launch) (G : sy_G) (g : Nat → Nat) (cx : cs) (hb9 : cs_b cx) (d : Int32) (x : Int64) (y : Int64) : Met l y_DeviceSets_mark (sy_w y_DeviceSets_mark b_DeviceSets_mark 7 (some .boolean)) { frames := 1, cells := 0, slots := 0, locals := 24 } (va_Pc [.ref (g 0), .int d, .long x, .long y] (sy_KP G (sy_Sp G g cx))) (va_Qi (S := cs) (fun r u => r = bI (x_mark cx d x y).1 ∧ u = (x_mark cx d x y).2) (fun u t => sys_P G g u t.heap) (sys_A G g cx)) 0 0 (sys_A G g cx) := by
  obtain ⟨hd, hs, hn, hc, hm, hb4⟩ := hb9
  by_cases q : mo_ok cx.nd d = true
  · obtain ⟨z, hz, rfl⟩ := mo_ix (by omega) q
    have hcz : (nI z).toNatClampNeg = z := nI_clamp (by omega)
    have e1 : x_mark cx (nI z) x y = ((xm_mark (cx.dm z) (cx.dk z) x y).1, cx.d z (cx.dl z) (cx.df z) (xm_mark (cx.dm z) (cx.dk z) x y).2.1 (xm_mark (cx.dm z) (cx.dk z) x y).2.2) := by rw [x_mark, if_pos q, hcz]
    rw [e1]
    exact sm_i (c_DeviceSets_mark l G g cx.nd cx.ns cx.nb z (cx.dl z) (cx.df z) (cx.dm z) (cx.dk z) x y hz hd (hm z hz).2) [sx 0, sx 1, sx 2, sd z 0, sd z 1, sd z 2, sd z 3] (by simp [sx, ss, sd]) (by simp only [List.map_cons, List.map_nil, ce_d hz]; rfl) (fun r u h => ⟨h.1, by rw [h.2]; exact (by simp only [List.map_cons, List.map_nil, ce_dzz hz]; rfl)⟩) (ce_dz (fun k hk => by rcases (show k = 0 ∨ k = 1 ∨ k = 2 ∨ k = 3 by omega) with e9 | e9 | e9 | e9 <;> subst e9 <;> simp [sx, ss, sd]))
  · rw [x_mark, if_neg q]
    exact sm_r (c_DeviceSets_markN l G g cx.nd cx.ns cx.nb d x y (Bool.eq_false_iff.mpr q) hd) (fun H h => sys_x h) (fun r h => h)
set_option maxHeartbeats 4000000 in
set_option maxRecDepth 100000 in
theorem s_tell (l : Launch) (G : sy_G) (g : Nat → Nat) (cx : cs) (hb9 : cs_b cx) (d : Int32) (x : Int64) (kd : Int32) (se : Int64) (v : Int64) (wh : Int64) : Met l y_DeviceSets_tell (sy_w y_DeviceSets_tell b_DeviceSets_tell 12 (some .int)) { frames := 1, cells := 0, slots := 0, locals := 30 } (va_Pc [.ref (g 0), .int d, .long x, .int kd, .long se, .long v, .long wh] (sy_KP G (sy_Sp G g cx))) (va_Qi (S := cs) (fun r u => r = (x_tell cx d x kd se v wh).1 ∧ u = (x_tell cx d x kd se v wh).2) (fun u t => sys_P G g u t.heap) (sys_A G g cx)) 0 0 (sys_A G g cx) := by
  obtain ⟨hd, hs, hn, hc, hm, hb4⟩ := hb9
  by_cases q : mo_ok cx.nd d = true
  · obtain ⟨z, hz, rfl⟩ := mo_ix (by omega) q
    have hcz : (nI z).toNatClampNeg = z := nI_clamp (by omega)
    have e1 : x_tell cx (nI z) x kd se v wh = ((xm_tell cx.nT cx.fI cx.fL (cx.dl z) (cx.df z) (nI z) x kd se v wh).1, cx.t (xm_tell cx.nT cx.fI cx.fL (cx.dl z) (cx.df z) (nI z) x kd se v wh).2) := by rw [x_tell, if_pos q, hcz]
    rw [e1]
    exact sm_i (c_DeviceSets_tell l G g cx.nd cx.ns cx.nb cx.nT cx.fI cx.fL z (cx.dl z) (cx.df z) (cx.dm z) (cx.dk z) x kd se v wh hz hd hn) [sx 0, sx 1, sx 2, sx 3, sx 4, sx 5, sx 6, sx 7, sx 8, sx 9, sx 10, sd z 0, sd z 1, sd z 2, sd z 3] (by simp [sx, ss, sd]) (by simp only [List.map_cons, List.map_nil, ce_d hz]; rfl) (fun r u h => ⟨h.1, by rw [h.2]; exact (by simp only [List.map_cons, List.map_nil, ce_dt hz]; rfl)⟩) (ce_t (fun k h1 h2 => by rcases (show k = 3 ∨ k = 4 ∨ k = 5 ∨ k = 6 ∨ k = 7 ∨ k = 8 ∨ k = 9 ∨ k = 10 by omega) with e9 | e9 | e9 | e9 | e9 | e9 | e9 | e9 <;> subst e9 <;> simp [sx, ss, sd]))
  · rw [x_tell, if_neg q]
    exact sm_r (c_DeviceSets_tellN l G g cx.nd cx.ns cx.nb d x kd se v wh (Bool.eq_false_iff.mpr q) hd) (fun H h => sys_x h) (fun r h => h)
set_option maxHeartbeats 4000000 in
set_option maxRecDepth 100000 in
theorem s_join (l : Launch) (G : sy_G) (g : Nat → Nat) (cx : cs) (hb9 : cs_b cx) (d : Int32) (dv : Int32) : Met l y_DeviceSets_join (sy_w y_DeviceSets_join b_DeviceSets_join 5 (some .int)) { frames := 5, cells := 0, slots := 0, locals := 120 } (va_Pc [.ref (g 0), .int d, .int dv] (sy_KP G (sy_Sp G g cx))) (va_Qi (S := cs) (fun r u => r = (x_join cx d dv).1 ∧ u = (x_join cx d dv).2) (fun u t => sys_P G g u t.heap) (sys_A G g cx)) 0 0 (sys_A G g cx) := by
  obtain ⟨hd, hs, hn, hc, hm, hb4⟩ := hb9
  by_cases q : mo_ok cx.ns d = true ∧ mo_ok cx.ns dv = true
  · obtain ⟨z, hz, rfl⟩ := mo_ix (by omega) q.1
    obtain ⟨y, hy, rfl⟩ := mo_ix (by omega) q.2
    have hcz : (nI z).toNatClampNeg = z := nI_clamp (by omega)
    have hcy : (nI y).toNatClampNeg = y := nI_clamp (by omega)
    have e1 : x_join cx (nI z) (nI y) = ((xm_join cx.nT cx.fI cx.fL (cx.so z) (cx.sh z) (cx.sv z) (cx.sh y)).1, (x_bring cx z y).2) := by rw [x_join, if_pos q, hcz, hcy]
    rw [e1]
    by_cases hzy : z = y
    · subst hzy
      exact sm_i (c_DeviceSets_joinS l G g cx.nd cx.ns cx.nb cx.nT cx.fI cx.fL z (cx.so z) (cx.sh z) (cx.sv z) hz hs hn) [sx 0, sx 1, sx 2, sx 3, sx 4, sx 5, sx 6, sx 7, sx 8, sx 9, sx 10, ss z 0, ss z 1, ss z 2] (by simp [sx, ss, sd]) (by simp only [List.map_cons, List.map_nil, ce_s hz]; rfl) (fun r u h => ⟨h.1, by rw [h.2, x_bring]; exact (by simp only [List.map_cons, List.map_nil, ce_sz hz]; rfl)⟩) (ce_z (fun k hk => by rcases (show k = 0 ∨ k = 1 ∨ k = 2 by omega) with e9 | e9 | e9 <;> subst e9 <;> simp [sx, ss, sd]))
    · exact sm_i (c_DeviceSets_join l G g cx.nd cx.ns cx.nb cx.nT cx.fI cx.fL z (cx.so z) (cx.sh z) (cx.sv z) y (cx.so y) (cx.sh y) (cx.sv y) hz hy hs hn) [sx 0, sx 1, sx 2, sx 3, sx 4, sx 5, sx 6, sx 7, sx 8, sx 9, sx 10, ss z 0, ss z 1, ss z 2, ss y 0, ss y 1, ss y 2] (by simp [sx, ss, sd, hzy]) (by simp only [List.map_cons, List.map_nil, ce_s hz, ce_s hy]; rfl) (fun r u h => ⟨h.1, by rw [h.2, x_bring]; exact (by simp only [List.map_cons, List.map_nil, ce_sz hz, ce_szn hy (fun e9 => hzy e9.symm)]; rfl)⟩) (ce_z (fun k hk => by rcases (show k = 0 ∨ k = 1 ∨ k = 2 by omega) with e9 | e9 | e9 <;> subst e9 <;> simp [sx, ss, sd]))
  · rw [x_join, if_neg q]
    exact sm_r (c_DeviceSets_joinN l G g cx.nd cx.ns cx.nb d dv q hs) (fun H h => sys_x h) (fun r h => h)
set_option maxHeartbeats 4000000 in
set_option maxRecDepth 100000 in
theorem s_joinChanges (l : Launch) (G : sy_G) (g : Nat → Nat) (cx : cs) (hs : cx.ns ≤ 6) (z y : Nat) (hz : z < cx.ns) (hy : y < cx.ns) (hzy : ¬ z = y) : Met l y_DeviceSets_joinChanges (sy_w y_DeviceSets_joinChanges b_DeviceSets_joinChanges 5 (some .boolean)) { frames := 3, cells := 0, slots := 0, locals := 67 } (va_Pc [.ref (g 0), .int (nI z), .int (nI y)] (sy_KP G (sy_Sp G g cx))) (va_Qi (S := cs) (fun r u => r = bI (x_bring cx z y).1 ∧ u = (x_bring cx z y).2) (fun u t => sys_P G g u t.heap) (sys_A G g cx)) 0 0 (sys_A G g cx) := by
  exact sm_i (c_DeviceSets_joinChanges l G g cx.nd cx.ns cx.nb z (cx.so z) (cx.sh z) (cx.sv z) y (cx.so y) (cx.sh y) (cx.sv y) hz hy hs) [sx 0, sx 1, sx 2, ss z 0, ss z 1, ss z 2, ss y 0, ss y 1, ss y 2] (by simp [sx, ss, sd, hzy]) (by simp only [List.map_cons, List.map_nil, ce_s hz, ce_s hy]; rfl) (fun r u h => ⟨h.1, by rw [h.2, x_bring]; exact (by simp only [List.map_cons, List.map_nil, ce_sz hz, ce_szn hy (fun e9 => hzy e9.symm)]; rfl)⟩) (ce_z (fun k hk => by rcases (show k = 0 ∨ k = 1 ∨ k = 2 by omega) with e9 | e9 | e9 <;> subst e9 <;> simp [sx, ss, sd]))
set_option maxHeartbeats 4000000 in
set_option maxRecDepth 100000 in
theorem s_correct (l : Launch) (G : sy_G) (g : Nat → Nat) (cx : cs) (hb9 : cs_b cx) (d : Int32) (dv : Int32) (kd : Int32) (se : Int64) (v : Int64) (wh : Int64) : Met l y_DeviceSets_correct (sy_w y_DeviceSets_correct b_DeviceSets_correct 12 (some .boolean)) { frames := 2, cells := 0, slots := 0, locals := 54 } (va_Pc [.ref (g 0), .int d, .int dv, .int kd, .long se, .long v, .long wh] (sy_KP G (sy_Sp G g cx))) (va_Qi (S := cs) (fun r u => r = bI (x_correct cx d dv kd se v wh).1 ∧ u = (x_correct cx d dv kd se v wh).2) (fun u t => sys_P G g u t.heap) (sys_A G g cx)) 0 0 (sys_A G g cx) := by
  obtain ⟨hd, hs, hn, hc, hm, hb4⟩ := hb9
  by_cases q : mo_ok cx.ns d = true ∧ mo_ok cx.nd dv = true
  · obtain ⟨z, hz, rfl⟩ := mo_ix (by omega) q.1
    have hcz : (nI z).toNatClampNeg = z := nI_clamp (by omega)
    have e1 : x_correct cx (nI z) dv kd se v wh = ((xm_correct cx.nC cx.gI cx.gL (cx.sh z) dv kd se v wh).1, (cx.z z (cx.so z) (xm_correct cx.nC cx.gI cx.gL (cx.sh z) dv kd se v wh).2.1 (cx.sv z)).co (xm_correct cx.nC cx.gI cx.gL (cx.sh z) dv kd se v wh).2.2) := by rw [x_correct, if_pos q, hcz]
    rw [e1]
    exact sm_i (c_DeviceSets_correct l G g cx.nd cx.ns cx.nb cx.nC cx.gI cx.gL z (cx.so z) (cx.sh z) (cx.sv z) dv kd se v wh hz hs q.2 hd hc) [sx 0, sx 1, sx 2, sx 11, sx 12, sx 13, sx 14, sx 15, sx 16, ss z 0, ss z 1, ss z 2] (by simp [sx, ss, sd]) (by simp only [List.map_cons, List.map_nil, ce_s hz]; rfl) (fun r u h => ⟨h.1, by rw [h.2]; exact (by simp only [List.map_cons, List.map_nil, ce_szc hz]; rfl)⟩) (fun i hi => (ce_co (c := cx.z z (cx.so z) (xm_correct cx.nC cx.gI cx.gL (cx.sh z) dv kd se v wh).2.1 (cx.sv z)) (fun k h1 h2 => by rcases (show k = 11 ∨ k = 12 ∨ k = 13 ∨ k = 14 ∨ k = 15 ∨ k = 16 by omega) with e9 | e9 | e9 | e9 | e9 | e9 <;> subst e9 <;> simp [sx, ss, sd]) i hi).trans (ce_z (fun k hk => by rcases (show k = 0 ∨ k = 1 ∨ k = 2 by omega) with e9 | e9 | e9 <;> subst e9 <;> simp [sx, ss, sd]) i hi))
  · rw [x_correct, if_neg q]
    exact sm_r (c_DeviceSets_correctN l G g cx.nd cx.ns cx.nb d dv kd se v wh q hs hd) (fun H h => sys_x h) (fun r h => h)
set_option maxHeartbeats 4000000 in
set_option maxRecDepth 100000 in
theorem s_endBatch (l : Launch) (G : sy_G) (g : Nat → Nat) (cx : cs) (hb9 : cs_b cx) (b : Int32) : Met l y_DeviceSets_endBatch (sy_w y_DeviceSets_endBatch b_DeviceSets_endBatch 4 (some .boolean)) { frames := 3, cells := 0, slots := 0, locals := 66 } (va_Pc [.ref (g 0), .int b] (sy_KP G (sy_Sp G g cx))) (va_Qi (S := cs) (fun r u => r = bI (x_end cx b).1 ∧ u = (x_end cx b).2) (fun u t => sys_P G g u t.heap) (sys_A G g cx)) 0 0 (sys_A G g cx) := by
  obtain ⟨hd, hs, hn, hc, hm, hb4⟩ := hb9
  by_cases q : b < 0
  · rw [x_end, if_pos q]
    exact sm_r (c_DeviceSets_endBatchN l G g cx.nd cx.ns cx.nb cx.so cx.sh cx.sv b (Or.inl q) hs) (fun H h => ⟨sys_x h, sys_s h⟩) (fun r h => h)
  · rw [x_end, if_neg q]
    cases hf : nn_ff (fun i => decide (cx.so i = b)) cx.ns with
    | none => exact sm_r (c_DeviceSets_endBatchN l G g cx.nd cx.ns cx.nb cx.so cx.sh cx.sv b (Or.inr hf) hs) (fun H h => ⟨sys_x h, sys_s h⟩) (fun r h => h)
    | some z =>
      have hz := (nn_ff_lt hf).1
      rw [show x_ev cx (some z) = (true, cx.z z (-1) (he_join (cx.sh z) (cx.sv z)) (he_zero (cx.sv z))) from rfl]
      exact sm_ix (c_DeviceSets_endBatch l G g cx.nd cx.ns cx.nb z cx.so cx.sh cx.sv b hz hs q hf) (fun H h => sys_s h) [sx 0, sx 1, sx 2, ss z 0, ss z 1, ss z 2] (by simp [sx, ss, sd]) (by simp only [List.map_cons, List.map_nil, ce_s hz]; rfl) (fun r u h => ⟨h.1, by rw [h.2]; exact (by simp only [List.map_cons, List.map_nil, ce_sz hz]; rfl)⟩) (ce_z (fun k hk => by rcases (show k = 0 ∨ k = 1 ∨ k = 2 by omega) with e9 | e9 | e9 <;> subst e9 <;> simp [sx, ss, sd]))
