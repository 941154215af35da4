set_option maxHeartbeats 4000000 in
set_option maxRecDepth 100000 in
theorem s_device (l : Launch) (G : sy_G) (g : Nat → Nat) (cx : cs) (hb9 : cs_b cx) (N9 : Nat) (hq : cx.nd < 4) : Met l y_DeviceSets_device (sy_w y_DeviceSets_device b_DeviceSets_device 1 (some .int)) { frames := 3, cells := 4, slots := 26, locals := 64 } (va_Pc [.ref (g 0)] (sy_KP G (fun H => sy_Sp G g cx H ∧ H.size = N9))) (va_Qi (S := Nat → Nat) (fun r u => r = (x_device cx).1 ∧ u 0 = g 0) (fun u t => sys_P G u (x_device cx).2 t.heap ∧ sys_D (fun q => sys_A G g cx q ∨ N9 ≤ q) G u (x_device cx).2) (fun q => sys_A G g cx q ∨ N9 ≤ q)) 4 26 (fun q => sys_A G g cx q ∨ N9 ≤ q) := by
  obtain ⟨hd, hs, hn, hc, hm, hb4⟩ := hb9
  have e1 : x_device cx = (nI cx.nd, cx.ad) := by rw [x_device, if_neg (by omega)]
  rw [e1]
  exact sm_a (c_DeviceSets_device l G g cx.nd cx.ns cx.nb N9 hq) [sx 0, sx 1, sx 2] [sd cx.nd 0, sd cx.nd 1, sd cx.nd 2, sd cx.nd 3] (by simp [i_xt, sx, ss, sd]) rfl (gd g cx.nd) (fun r u h => ⟨h, gd_o (by omega), gd_e hq, gd_oo hq⟩)
set_option maxHeartbeats 4000000 in
set_option maxRecDepth 100000 in
theorem s_set (l : Launch) (G : sy_G) (g : Nat → Nat) (cx : cs) (hb9 : cs_b cx) (d : Int32) (N9 : Nat) (hq : cx.ns < 6) (hq2 : mo_ok cx.nd d = true) : Met l y_DeviceSets_set (sy_w y_DeviceSets_set b_DeviceSets_set 2 (some .int)) { frames := 3, cells := 3, slots := 11, locals := 66 } (va_Pc [.ref (g 0), .int d] (sy_KP G (fun H => sy_Sp G g cx H ∧ H.size = N9))) (va_Qi (S := Nat → Nat) (fun r u => r = (x_set cx d).1 ∧ u 0 = g 0) (fun u t => sys_P G u (x_set cx d).2 t.heap ∧ sys_D (fun q => sys_A G g cx q ∨ N9 ≤ q) G u (x_set cx d).2) (fun q => sys_A G g cx q ∨ N9 ≤ q)) 3 11 (fun q => sys_A G g cx q ∨ N9 ≤ q) := by
  obtain ⟨hd, hs, hn, hc, hm, hb4⟩ := hb9
  have e1 : x_set cx d = (nI cx.ns, (cx.as (tl_ofD cx.fI cx.nT d))) := by rw [x_set, if_neg (fun h => by rcases h with h | h; omega; rw [hq2] at h; cases h)]
  rw [e1]
  exact sm_a (c_DeviceSets_set l G g cx.nd cx.ns cx.nb cx.nT cx.fI cx.fL N9 d hq hq2 hd hn) i_xt [ss cx.ns 0, ss cx.ns 1, ss cx.ns 2] (by simp [i_xt, sx, ss, sd]) rfl (gs g cx.ns) (fun r u h => ⟨h, gs_o (by omega), gs_e hq hd, gs_oo hq hd⟩)
set_option maxHeartbeats 4000000 in
set_option maxRecDepth 100000 in
theorem s_deviceN (l : Launch) (G : sy_G) (g : Nat → Nat) (cx : cs) (hb9 : cs_b cx) (hq : ¬ cx.nd < 4) : Met l y_DeviceSets_device (sy_w y_DeviceSets_device b_DeviceSets_device 1 (some .int)) { frames := 3, cells := 0, slots := 0, locals := 64 } (va_Pc [.ref (g 0)] (sy_KP G (sy_Sp G g cx))) (va_Qi (S := cs) (fun r u => r = (x_device cx).1 ∧ u = (x_device cx).2) (fun u t => sys_P G g u t.heap) (sys_A G g cx)) 0 0 (sys_A G g cx) := by
  obtain ⟨hd, hs, hn, hc, hm, hb4⟩ := hb9
  have e1 : x_device cx = (-1, cx) := by rw [x_device, if_pos (by omega)]
  rw [e1]
  exact sm_r (c_DeviceSets_deviceN l G g cx.nd cx.ns cx.nb (by omega) hd) (fun H h => sys_x h) (fun r h => h)
set_option maxHeartbeats 4000000 in
set_option maxRecDepth 100000 in
theorem s_setN (l : Launch) (G : sy_G) (g : Nat → Nat) (cx : cs) (hb9 : cs_b cx) (d : Int32) (hq : 6 ≤ cx.ns ∨ mo_ok cx.nd d = false) : Met l y_DeviceSets_set (sy_w y_DeviceSets_set b_DeviceSets_set 2 (some .int)) { frames := 3, cells := 0, slots := 0, locals := 66 } (va_Pc [.ref (g 0), .int d] (sy_KP G (sy_Sp G g cx))) (va_Qi (S := cs) (fun r u => r = (x_set cx d).1 ∧ u = (x_set cx d).2) (fun u t => sys_P G g u t.heap) (sys_A G g cx)) 0 0 (sys_A G g cx) := by
  obtain ⟨hd, hs, hn, hc, hm, hb4⟩ := hb9
  have e1 : x_set cx d = (-1, cx) := by rw [x_set, if_pos hq]
  rw [e1]
  exact sm_r (c_DeviceSets_setN l G g cx.nd cx.ns cx.nb d hq hs hd) (fun H h => sys_x h) (fun r h => h)
