set_option maxHeartbeats 4000000 in
set_option maxRecDepth 100000 in
theorem c_Held_init (l : Launch) (G : sy_G) (h0 : Nat) (N9 : Nat) : Met l y_Held_init (sy_w y_Held_init b_Held_init 1 none) { frames := 1, cells := 0, slots := 0, locals := 24 } (va_Pc [.ref h0] (sy_KP G (fun H => va_P G.1 classes ([(h0, .inr (3, [.long 0, .long 0, .long 0, .long 0]))]) H ∧ va_D (fun _ => True) ([(h0, .inr (3, [.long 0, .long 0, .long 0, .long 0]))]) ∧ H.size = N9))) (va_Qv (S := Nat → Nat) (fun _ => True) (fun u t => va_P G.1 classes ([(h0, .inr (3, [.long 0, .long 0, .long 0, .long 0]))]) t.heap ∧ va_D (va_A ([(h0, .inr (3, [.long 0, .long 0, .long 0, .long 0]))]) N9) ([(h0, .inr (3, [.long 0, .long 0, .long 0, .long 0]))])) (va_A ([(h0, .inr (3, [.long 0, .long 0, .long 0, .long 0]))]) N9)) 0 0 (va_A ([(h0, .inr (3, [.long 0, .long 0, .long 0, .long 0]))]) N9) := by
  refine Met.ofW (cc := b_Held_init) (maxL := 1) (ret := none) (by decide) rfl ?_
  intro p e s m args below meth c s₁ B hml hv
  obtain ⟨rfl, ⟨hP, hD0, hN9⟩, hK⟩ := hv
  subst hN9
  have hx := B.exec
  have hb := B.bytes
  have hr := B.returns
  have hts := atoms_spec (ws := sy_w y_Held_init b_Held_init 1 none) B.pre
  have ht : ∀ wd ∈ sy_T, wd.before ([.ref h0] : List Value).toArray s = true := fun wd h => hts wd (List.mem_cons_of_mem _ h)
  have hown : s.vm.findClass R_Held = some m.cls := findClass_of_methodNamed B.named
  have hlocks := B.notSynchronized
  have hin : meth.name = "<init>" := (name_of_methodNamed B.named B.method).1
  have hD := va_D.self (sz := s.heap.size) hD0
  have hA : ∀ q, s.heap.size ≤ q → va_A ([(h0, .inr (3, [.long 0, .long 0, .long 0, .long 0]))]) s.heap.size q := fun q h => Or.inr h
  generalize hAe : va_A ([(h0, .inr (3, [.long 0, .long 0, .long 0, .long 0]))]) s.heap.size = A at hD hA ⊢
  have hS : va_S A s.heap s.heap [] := va_S.rf
  have hl := lv_entry ([.ref h0]) (n := 1) (Nat.le_of_ble_eq_true rfl)
  rw [lg_entry_eq]
  generalize (lg_sl ([.ref h0]) ++ List.replicate (1 - (lg_sl ([.ref h0])).length) Slot.unset).toArray = ls at hl ⊢
  have hl : lv_has ls 1 [(0, .ref h0)] := hl
  refine lv_aload_n hx hb d_Held_init_0 rfl (lv_at hl 0 rfl) ?_
  refine W.objInit hx hb hown (ht _ m_228) (ht _ m_46) (ht _ m_47) rfl (hl.1.trans hml.symm) rfl d_Held_init_1 (Nat.le_of_ble_eq_true rfl) (Nat.le_of_ble_eq_true rfl) ?_
  exact W.vret hx hb hr (fun t ht hW => ⟨⟨(fun j => ([] : List Nat).getD j 0), rfl, trivial, by show va_P _ _ _ t.heap ∧ _; rw [ht]; exact ⟨hP, hD⟩⟩, hS.F ht⟩) hS.2.2 d_Held_init_4
set_option maxHeartbeats 4000000 in
set_option maxRecDepth 100000 in
theorem c_Clock_init (l : Launch) (G : sy_G) (h0 : Nat) (N9 : Nat) : Met l y_Clock_init (sy_w y_Clock_init b_Clock_init 1 none) { frames := 1, cells := 2, slots := 20, locals := 24 } (va_Pc [.ref h0] (sy_KP G (fun H => va_P G.1 classes ([(h0, .inr (2, [.null, .null, .int 0]))]) H ∧ va_D (fun _ => True) ([(h0, .inr (2, [.null, .null, .int 0]))]) ∧ H.size = N9))) (va_Qv (S := Nat → Nat) (fun _ => True) (fun u t => va_P G.1 classes (kw G.2 h0 u 0 (fun _ _ => 0)) t.heap ∧ va_D (va_A ([(h0, .inr (2, [.null, .null, .int 0]))]) N9) (kw G.2 h0 u 0 (fun _ _ => 0))) (va_A ([(h0, .inr (2, [.null, .null, .int 0]))]) N9)) 2 20 (va_A ([(h0, .inr (2, [.null, .null, .int 0]))]) N9) := by
  refine Met.ofW (cc := b_Clock_init) (maxL := 1) (ret := none) (by decide) rfl ?_
  intro p e s m args below meth c s₁ B hml hv
  obtain ⟨rfl, ⟨hP, hD0, hN9⟩, hK⟩ := hv
  subst hN9
  have hx := B.exec
  have hb := B.bytes
  have hr := B.returns
  have hts := atoms_spec (ws := sy_w y_Clock_init b_Clock_init 1 none) B.pre
  have ht : ∀ wd ∈ sy_T, wd.before ([.ref h0] : List Value).toArray s = true := fun wd h => hts wd (List.mem_cons_of_mem _ h)
  have hown : s.vm.findClass R_Clock = some m.cls := findClass_of_methodNamed B.named
  have hlocks := B.notSynchronized
  have hin : meth.name = "<init>" := (name_of_methodNamed B.named B.method).1
  have hD := va_D.self (sz := s.heap.size) hD0
  have hA : ∀ q, s.heap.size ≤ q → va_A ([(h0, .inr (2, [.null, .null, .int 0]))]) s.heap.size q := fun q h => Or.inr h
  generalize hAe : va_A ([(h0, .inr (2, [.null, .null, .int 0]))]) s.heap.size = A at hD hA ⊢
  have hS : va_S A s.heap s.heap [] := va_S.rf
  have hl := lv_entry ([.ref h0]) (n := 1) (Nat.le_of_ble_eq_true rfl)
  rw [lg_entry_eq]
  generalize (lg_sl ([.ref h0]) ++ List.replicate (1 - (lg_sl ([.ref h0])).length) Slot.unset).toArray = ls at hl ⊢
  have hl : lv_has ls 1 [(0, .ref h0)] := hl
  refine lv_aload_n hx hb d_Clock_init_0 rfl (lv_at hl 0 rfl) ?_
  refine W.objInit hx hb hown (ht _ m_149) (ht _ m_46) (ht _ m_47) rfl (hl.1.trans hml.symm) rfl d_Clock_init_1 (Nat.le_of_ble_eq_true rfl) (Nat.le_of_ble_eq_true rfl) ?_
  refine lv_aload_n hx hb d_Clock_init_4 rfl (lv_at hl 0 rfl) ?_
  refine lv_bipush (v := 10) hx hb d_Clock_init_5 (by decide) ?_
  refine sy_newa (atype := .long) (ty := .long) hx hb (ht _ m_86) rfl hK.1 1 rfl hP hD hS hA (n := 10) (N' := 10) (a0 := (10, .inr (.inl (fun _ => 0)))) (fun _ => rfl) (by decide) (by decide) (by decide) (Nat.le_of_ble_eq_true rfl) (Nat.le_of_ble_eq_true rfl) d_Clock_init_7 (fun q_1 H hP hD hS => ?_)
  have hP : va_P G.1 classes ([(h0, .inr (2, [.null, .null, .int 0])), (q_1, .inl (G.2 1, 10, .inr (.inl ((fun _ => 0)))))]) H := hP
  have hD : va_D A ([(h0, .inr (2, [.null, .null, .int 0])), (q_1, .inl (G.2 1, 10, .inr (.inl ((fun _ => 0)))))]) := hD
  refine va_putF (D := G.1) (ci := 2) (v := .ref q_1) (ty := (.array .long)) (C := R_Clock) (T := F_Clock) (N := 3) hx hb ht i_Clock t_Clock t_Clock_ok n_Clock hown hK.1 hP hD hS 0 rfl rfl 0 (by decide) (ht _ m_150) (fun _ h9 => h9) rfl hin rfl (by decide +kernel) rfl rfl (Nat.le_of_ble_eq_true rfl) d_Clock_init_9 (fun H locs hP hD hS => ?_)
  have hP : va_P G.1 classes ([(h0, .inr (2, [.ref q_1, .null, .int 0])), (q_1, .inl (G.2 1, 10, .inr (.inl ((fun _ => 0)))))]) H := hP
  have hD : va_D A ([(h0, .inr (2, [.ref q_1, .null, .int 0])), (q_1, .inl (G.2 1, 10, .inr (.inl ((fun _ => 0)))))]) := hD
  refine lv_aload_n hx hb d_Clock_init_12 rfl (lv_at hl 0 rfl) ?_
  refine lv_bipush (v := 10) hx hb d_Clock_init_13 (by decide) ?_
  refine sy_newa (atype := .long) (ty := .long) hx hb (ht _ m_86) rfl hK.1 1 rfl hP hD hS hA (n := 10) (N' := 10) (a0 := (10, .inr (.inl (fun _ => 0)))) (fun _ => rfl) (by decide) (by decide) (by decide) (Nat.le_of_ble_eq_true rfl) (Nat.le_of_ble_eq_true rfl) d_Clock_init_15 (fun q_2 H hP hD hS => ?_)
  have hP : va_P G.1 classes ([(h0, .inr (2, [.ref q_1, .null, .int 0])), (q_1, .inl (G.2 1, 10, .inr (.inl ((fun _ => 0))))), (q_2, .inl (G.2 1, 10, .inr (.inl ((fun _ => 0)))))]) H := hP
  have hD : va_D A ([(h0, .inr (2, [.ref q_1, .null, .int 0])), (q_1, .inl (G.2 1, 10, .inr (.inl ((fun _ => 0))))), (q_2, .inl (G.2 1, 10, .inr (.inl ((fun _ => 0)))))]) := hD
  refine va_putF (D := G.1) (ci := 2) (v := .ref q_2) (ty := (.array .long)) (C := R_Clock) (T := F_Clock) (N := 3) hx hb ht i_Clock t_Clock t_Clock_ok n_Clock hown hK.1 hP hD hS 0 rfl rfl 1 (by decide) (ht _ m_151) (fun _ h9 => h9) rfl hin rfl (by decide +kernel) rfl rfl (Nat.le_of_ble_eq_true rfl) d_Clock_init_17 (fun H locs hP hD hS => ?_)
  have hP : va_P G.1 classes ([(h0, .inr (2, [.ref q_1, .ref q_2, .int 0])), (q_1, .inl (G.2 1, 10, .inr (.inl ((fun _ => 0))))), (q_2, .inl (G.2 1, 10, .inr (.inl ((fun _ => 0)))))]) H := hP
  have hD : va_D A ([(h0, .inr (2, [.ref q_1, .ref q_2, .int 0])), (q_1, .inl (G.2 1, 10, .inr (.inl ((fun _ => 0))))), (q_2, .inl (G.2 1, 10, .inr (.inl ((fun _ => 0)))))]) := hD
  exact W.vret hx hb hr (fun t ht hW => ⟨⟨(fun j => ([q_1, q_2] : List Nat).getD j 0), rfl, trivial, by show va_P _ _ _ t.heap ∧ _; rw [ht]; exact ⟨hP, hD⟩⟩, hS.F ht⟩) hS.2.2 d_Clock_init_20
set_option maxHeartbeats 4000000 in
set_option maxRecDepth 100000 in
theorem c_Device_init (l : Launch) (G : sy_G) (h0 : Nat) (N9 : Nat) : Met l y_Device_init (sy_w y_Device_init b_Device_init 1 none) { frames := 2, cells := 3, slots := 23, locals := 44 } (va_Pc [.ref h0] (sy_KP G (fun H => va_P G.1 classes ([(h0, .inr (1, [.null, .int 0, .long 0]))]) H ∧ va_D (fun _ => True) ([(h0, .inr (1, [.null, .int 0, .long 0]))]) ∧ H.size = N9))) (va_Qv (S := Nat → Nat) (fun _ => True) (fun u t => va_P G.1 classes (dq G.2 h0 (u 0) (fun k => u (1 + k)) 0 0 0 (fun _ _ => 0)) t.heap ∧ va_D (va_A ([(h0, .inr (1, [.null, .int 0, .long 0]))]) N9) (dq G.2 h0 (u 0) (fun k => u (1 + k)) 0 0 0 (fun _ _ => 0))) (va_A ([(h0, .inr (1, [.null, .int 0, .long 0]))]) N9)) 3 23 (va_A ([(h0, .inr (1, [.null, .int 0, .long 0]))]) N9) := by
  refine Met.ofW (cc := b_Device_init) (maxL := 1) (ret := none) (by decide) rfl ?_
  intro p e s m args below meth c s₁ B hml hv
  obtain ⟨rfl, ⟨hP, hD0, hN9⟩, hK⟩ := hv
  subst hN9
  have hx := B.exec
  have hb := B.bytes
  have hr := B.returns
  have hts := atoms_spec (ws := sy_w y_Device_init b_Device_init 1 none) B.pre
  have ht : ∀ wd ∈ sy_T, wd.before ([.ref h0] : List Value).toArray s = true := fun wd h => hts wd (List.mem_cons_of_mem _ h)
  have hown : s.vm.findClass R_Device = some m.cls := findClass_of_methodNamed B.named
  have hlocks := B.notSynchronized
  have hin : meth.name = "<init>" := (name_of_methodNamed B.named B.method).1
  have hD := va_D.self (sz := s.heap.size) hD0
  have hA : ∀ q, s.heap.size ≤ q → va_A ([(h0, .inr (1, [.null, .int 0, .long 0]))]) s.heap.size q := fun q h => Or.inr h
  generalize hAe : va_A ([(h0, .inr (1, [.null, .int 0, .long 0]))]) s.heap.size = A at hD hA ⊢
  have hS : va_S A s.heap s.heap [] := va_S.rf
  have hl := lv_entry ([.ref h0]) (n := 1) (Nat.le_of_ble_eq_true rfl)
  rw [lg_entry_eq]
  generalize (lg_sl ([.ref h0]) ++ List.replicate (1 - (lg_sl ([.ref h0])).length) Slot.unset).toArray = ls at hl ⊢
  have hl : lv_has ls 1 [(0, .ref h0)] := hl
  refine lv_aload_n hx hb d_Device_init_0 rfl (lv_at hl 0 rfl) ?_
  refine W.objInit hx hb hown (ht _ m_143) (ht _ m_46) (ht _ m_47) rfl (hl.1.trans hml.symm) rfl d_Device_init_1 (Nat.le_of_ble_eq_true rfl) (Nat.le_of_ble_eq_true rfl) ?_
  refine lv_aload_n hx hb d_Device_init_4 rfl (lv_at hl 0 rfl) ?_
  refine va_new (D := G.1) (ci := 2) (C := R_Clock) (T := F_Clock) (N := 3) hx hb ht i_Clock t_Clock t_Clock_ok hown (ht _ m_144) (ht _ m_145) (ht _ m_35) hK.1 hP hD hS hA rfl (fs := [.null, .null, .int 0]) nd_Clock (Nat.le_of_ble_eq_true rfl) (Nat.le_of_ble_eq_true rfl) d_Device_init_5 (fun q_1 H hP hD hS => ?_)
  have hP : va_P G.1 classes ([(h0, .inr (1, [.null, .int 0, .long 0])), (q_1, .inr (2, [.null, .null, .int 0]))]) H := hP
  have hD : va_D A ([(h0, .inr (1, [.null, .int 0, .long 0])), (q_1, .inr (2, [.null, .null, .int 0]))]) := hD
  refine lv_dup hx hb d_Device_init_8 rfl ?_
  have hPc : va_P G.1 classes ([(q_1, .inr (2, [.null, .null, .int 0]))]) H := hP.sub [1] rfl
  have hDc : va_D A ([(q_1, .inr (2, [.null, .null, .int 0]))]) := hD.sub [1] (by decide) rfl
  have hF9 := va_free (wc := [(q_1, .inr (2, [.null, .null, .int 0]))]) hD hS hA [1] rfl
  refine va_callv (sy_runIN (As := []) (rest := [.ref q_1, .ref h0]) (b := q_1) ⟨hx, hb, hml, hown, ht⟩ cl_Device_9 (c_Clock_init l G q_1 H.size) hK ⟨hPc, sy_any hDc, rfl⟩ rfl rfl nm_Clock_init rfl rfl ⟨Nat.le_of_ble_eq_true rfl, Nat.le_of_ble_eq_true rfl⟩ hl.1 (Nat.le_of_ble_eq_true rfl) d_Device_init_9 ⟨Nat.le_of_ble_eq_true rfl, Nat.le_of_ble_eq_true rfl⟩) hS (fun q _ h => hF9 q h) (fun q h => hF9 q h) (fun u_2 t9 H9 locs ht9 hvm9 hw9 hB9 hz9 hk9 hS => ?_)
  rw [ht9] at hB9
  obtain ⟨hP, hD⟩ := va_join (wr := [(h0, .inr (1, [.null, .int 0, .long 0]))]) hP hD [1] [0] rfl rfl rfl (by decide) hk9 hF9 hB9.1 hB9.2
  generalize H9 = H at hP hS ⊢
  have hP : va_P G.1 classes ([(h0, .inr (1, [.null, .int 0, .long 0])), (q_1, .inr (2, [.ref (u_2 0), .ref (u_2 1), .int (nI 0)])), (u_2 0, .inl (G.2 1, 10, .inr (.inl ((fun _ => 0))))), (u_2 1, .inl (G.2 1, 10, .inr (.inl ((fun _ => 0)))))]) H := hP
  have hD : va_D A ([(h0, .inr (1, [.null, .int 0, .long 0])), (q_1, .inr (2, [.ref (u_2 0), .ref (u_2 1), .int (nI 0)])), (u_2 0, .inl (G.2 1, 10, .inr (.inl ((fun _ => 0))))), (u_2 1, .inl (G.2 1, 10, .inr (.inl ((fun _ => 0)))))]) := hD
  refine va_putF (D := G.1) (ci := 1) (v := .ref q_1) (ty := (.object "DeviceSets$Clock")) (C := R_Device) (T := F_Device) (N := 3) hx hb ht i_Device t_Device t_Device_ok n_Device hown hK.1 hP hD hS 0 rfl rfl 0 (by decide) (ht _ m_160) (fun _ h9 => h9) rfl hin rfl (by decide +kernel) rfl rfl (Nat.le_of_ble_eq_true rfl) d_Device_init_12 (fun H locs hP hD hS => ?_)
  have hP : va_P G.1 classes ([(h0, .inr (1, [.ref q_1, .int 0, .long 0])), (q_1, .inr (2, [.ref (u_2 0), .ref (u_2 1), .int (nI 0)])), (u_2 0, .inl (G.2 1, 10, .inr (.inl ((fun _ => 0))))), (u_2 1, .inl (G.2 1, 10, .inr (.inl ((fun _ => 0)))))]) H := hP
  have hD : va_D A ([(h0, .inr (1, [.ref q_1, .int 0, .long 0])), (q_1, .inr (2, [.ref (u_2 0), .ref (u_2 1), .int (nI 0)])), (u_2 0, .inl (G.2 1, 10, .inr (.inl ((fun _ => 0))))), (u_2 1, .inl (G.2 1, 10, .inr (.inl ((fun _ => 0)))))]) := hD
  exact W.vret hx hb hr (fun t ht hW => ⟨⟨(fun j => ([q_1, u_2 0, u_2 1] : List Nat).getD j 0), rfl, trivial, by show va_P _ _ _ t.heap ∧ _; rw [ht]; exact ⟨hP, hD⟩⟩, hS.F ht⟩) hS.2.2 d_Device_init_15
set_option maxHeartbeats 4000000 in
set_option maxRecDepth 100000 in
theorem c_ToldSet_init (l : Launch) (G : sy_G) (h0 : Nat) (N9 : Nat) (x : Int64) : Met l y_ToldSet_init (sy_w y_ToldSet_init b_ToldSet_init 3 none) { frames := 2, cells := 2, slots := 8, locals := 44 } (va_Pc [.ref h0, .long x] (sy_KP G (fun H => va_P G.1 classes ([(h0, .inr (4, [.null, .null, .int 0]))]) H ∧ va_D (fun _ => True) ([(h0, .inr (4, [.null, .null, .int 0]))]) ∧ H.size = N9))) (va_Qv (S := Nat → Nat) (fun _ => True) (fun u t => va_P G.1 classes (sq h0 (u 0) (u 1) (-1) (va_up (fun _ => 0) 0 x) (fun _ => 0)) t.heap ∧ va_D (va_A ([(h0, .inr (4, [.null, .null, .int 0]))]) N9) (sq h0 (u 0) (u 1) (-1) (va_up (fun _ => 0) 0 x) (fun _ => 0))) (va_A ([(h0, .inr (4, [.null, .null, .int 0]))]) N9)) 2 8 (va_A ([(h0, .inr (4, [.null, .null, .int 0]))]) N9) := by
  refine Met.ofW (cc := b_ToldSet_init) (maxL := 3) (ret := none) (by decide) rfl ?_
  intro p e s m args below meth c s₁ B hml hv
  obtain ⟨rfl, ⟨hP, hD0, hN9⟩, hK⟩ := hv
  subst hN9
  have hx := B.exec
  have hb := B.bytes
  have hr := B.returns
  have hts := atoms_spec (ws := sy_w y_ToldSet_init b_ToldSet_init 3 none) B.pre
  have ht : ∀ wd ∈ sy_T, wd.before ([.ref h0, .long x] : List Value).toArray s = true := fun wd h => hts wd (List.mem_cons_of_mem _ h)
  have hown : s.vm.findClass R_ToldSet = some m.cls := findClass_of_methodNamed B.named
  have hlocks := B.notSynchronized
  have hin : meth.name = "<init>" := (name_of_methodNamed B.named B.method).1
  have hD := va_D.self (sz := s.heap.size) hD0
  have hA : ∀ q, s.heap.size ≤ q → va_A ([(h0, .inr (4, [.null, .null, .int 0]))]) s.heap.size q := fun q h => Or.inr h
  generalize hAe : va_A ([(h0, .inr (4, [.null, .null, .int 0]))]) s.heap.size = A at hD hA ⊢
  have hS : va_S A s.heap s.heap [] := va_S.rf
  have hl := lv_entry ([.ref h0, .long x]) (n := 3) (Nat.le_of_ble_eq_true rfl)
  rw [lg_entry_eq]
  generalize (lg_sl ([.ref h0, .long x]) ++ List.replicate (3 - (lg_sl ([.ref h0, .long x])).length) Slot.unset).toArray = ls at hl ⊢
  have hl : lv_has ls 3 [(0, .ref h0), (1, .long x)] := hl
  refine lv_aload_n hx hb d_ToldSet_init_0 rfl (lv_at hl 0 rfl) ?_
  refine W.objInit hx hb hown (ht _ m_222) (ht _ m_46) (ht _ m_47) rfl (hl.1.trans hml.symm) rfl d_ToldSet_init_1 (Nat.le_of_ble_eq_true rfl) (Nat.le_of_ble_eq_true rfl) ?_
  refine lv_aload_n hx hb d_ToldSet_init_4 rfl (lv_at hl 0 rfl) ?_
  refine va_new (D := G.1) (ci := 3) (C := R_Held) (T := F_Held) (N := 4) hx hb ht i_Held t_Held t_Held_ok hown (ht _ m_223) (ht _ m_224) (ht _ m_37) hK.1 hP hD hS hA rfl (fs := [.long 0, .long 0, .long 0, .long 0]) nd_Held (Nat.le_of_ble_eq_true rfl) (Nat.le_of_ble_eq_true rfl) d_ToldSet_init_5 (fun q_1 H hP hD hS => ?_)
  have hP : va_P G.1 classes ([(h0, .inr (4, [.null, .null, .int 0])), (q_1, .inr (3, [.long 0, .long 0, .long 0, .long 0]))]) H := hP
  have hD : va_D A ([(h0, .inr (4, [.null, .null, .int 0])), (q_1, .inr (3, [.long 0, .long 0, .long 0, .long 0]))]) := hD
  refine lv_dup hx hb d_ToldSet_init_8 rfl ?_
  have hPc : va_P G.1 classes ([(q_1, .inr (3, [.long 0, .long 0, .long 0, .long 0]))]) H := hP.sub [1] rfl
  have hDc : va_D A ([(q_1, .inr (3, [.long 0, .long 0, .long 0, .long 0]))]) := hD.sub [1] (by decide) rfl
  have hF9 := va_free (wc := [(q_1, .inr (3, [.long 0, .long 0, .long 0, .long 0]))]) hD hS hA [1] rfl
  refine va_callv (sy_runIN (As := []) (rest := [.ref q_1, .ref h0]) (b := q_1) ⟨hx, hb, hml, hown, ht⟩ cl_ToldSet_11 (c_Held_init l G q_1 H.size) hK ⟨hPc, sy_any hDc, rfl⟩ rfl rfl nm_Held_init rfl rfl ⟨Nat.le_of_ble_eq_true rfl, Nat.le_of_ble_eq_true rfl⟩ hl.1 (Nat.le_of_ble_eq_true rfl) d_ToldSet_init_9 ⟨Nat.le_of_ble_eq_true rfl, Nat.le_of_ble_eq_true rfl⟩) hS (fun q _ h => hF9 q h) (fun q h => hF9 q h) (fun u_2 t9 H9 locs ht9 hvm9 hw9 hB9 hz9 hk9 hS => ?_)
  rw [ht9] at hB9
  obtain ⟨hP, hD⟩ := va_join (wr := [(h0, .inr (4, [.null, .null, .int 0]))]) hP hD [1] [0] rfl rfl rfl (by decide) hk9 hF9 hB9.1 hB9.2
  generalize H9 = H at hP hS ⊢
  have hP : va_P G.1 classes ([(h0, .inr (4, [.null, .null, .int 0])), (q_1, .inr (3, [.long 0, .long 0, .long 0, .long 0]))]) H := hP
  have hD : va_D A ([(h0, .inr (4, [.null, .null, .int 0])), (q_1, .inr (3, [.long 0, .long 0, .long 0, .long 0]))]) := hD
  refine va_putF (D := G.1) (ci := 4) (v := .ref q_1) (ty := (.object "DeviceSets$Held")) (C := R_ToldSet) (T := F_ToldSet) (N := 3) hx hb ht i_ToldSet t_ToldSet t_ToldSet_ok n_ToldSet hown hK.1 hP hD hS 0 rfl rfl 0 (by decide) (ht _ m_247) (fun _ h9 => h9) rfl hin rfl (by decide +kernel) rfl rfl (Nat.le_of_ble_eq_true rfl) d_ToldSet_init_12 (fun H locs hP hD hS => ?_)
  have hP : va_P G.1 classes ([(h0, .inr (4, [.ref q_1, .null, .int 0])), (q_1, .inr (3, [.long 0, .long 0, .long 0, .long 0]))]) H := hP
  have hD : va_D A ([(h0, .inr (4, [.ref q_1, .null, .int 0])), (q_1, .inr (3, [.long 0, .long 0, .long 0, .long 0]))]) := hD
  refine lv_aload_n hx hb d_ToldSet_init_15 rfl (lv_at hl 0 rfl) ?_
  refine va_new (D := G.1) (ci := 3) (C := R_Held) (T := F_Held) (N := 4) hx hb ht i_Held t_Held t_Held_ok hown (ht _ m_223) (ht _ m_224) (ht _ m_37) hK.1 hP hD hS hA rfl (fs := [.long 0, .long 0, .long 0, .long 0]) nd_Held (Nat.le_of_ble_eq_true rfl) (Nat.le_of_ble_eq_true rfl) d_ToldSet_init_16 (fun q_3 H hP hD hS => ?_)
  have hP : va_P G.1 classes ([(h0, .inr (4, [.ref q_1, .null, .int 0])), (q_1, .inr (3, [.long 0, .long 0, .long 0, .long 0])), (q_3, .inr (3, [.long 0, .long 0, .long 0, .long 0]))]) H := hP
  have hD : va_D A ([(h0, .inr (4, [.ref q_1, .null, .int 0])), (q_1, .inr (3, [.long 0, .long 0, .long 0, .long 0])), (q_3, .inr (3, [.long 0, .long 0, .long 0, .long 0]))]) := hD
  refine lv_dup hx hb d_ToldSet_init_19 rfl ?_
  have hPc : va_P G.1 classes ([(q_3, .inr (3, [.long 0, .long 0, .long 0, .long 0]))]) H := hP.sub [2] rfl
  have hDc : va_D A ([(q_3, .inr (3, [.long 0, .long 0, .long 0, .long 0]))]) := hD.sub [2] (by decide) rfl
  have hF9 := va_free (wc := [(q_3, .inr (3, [.long 0, .long 0, .long 0, .long 0]))]) hD hS hA [2] rfl
  refine va_callv (sy_runIN (As := []) (rest := [.ref q_3, .ref h0]) (b := q_3) ⟨hx, hb, hml, hown, ht⟩ cl_ToldSet_11 (c_Held_init l G q_3 H.size) hK ⟨hPc, sy_any hDc, rfl⟩ rfl rfl nm_Held_init rfl rfl ⟨Nat.le_of_ble_eq_true rfl, Nat.le_of_ble_eq_true rfl⟩ hl.1 (Nat.le_of_ble_eq_true rfl) d_ToldSet_init_20 ⟨Nat.le_of_ble_eq_true rfl, Nat.le_of_ble_eq_true rfl⟩) hS (fun q _ h => hF9 q h) (fun q h => hF9 q h) (fun u_4 t9 H9 locs ht9 hvm9 hw9 hB9 hz9 hk9 hS => ?_)
  rw [ht9] at hB9
  obtain ⟨hP, hD⟩ := va_join (wr := [(h0, .inr (4, [.ref q_1, .null, .int 0])), (q_1, .inr (3, [.long 0, .long 0, .long 0, .long 0]))]) hP hD [2] [0, 1] rfl rfl rfl (by decide) hk9 hF9 hB9.1 hB9.2
  generalize H9 = H at hP hS ⊢
  have hP : va_P G.1 classes ([(h0, .inr (4, [.ref q_1, .null, .int 0])), (q_1, .inr (3, [.long 0, .long 0, .long 0, .long 0])), (q_3, .inr (3, [.long 0, .long 0, .long 0, .long 0]))]) H := hP
  have hD : va_D A ([(h0, .inr (4, [.ref q_1, .null, .int 0])), (q_1, .inr (3, [.long 0, .long 0, .long 0, .long 0])), (q_3, .inr (3, [.long 0, .long 0, .long 0, .long 0]))]) := hD
  refine va_putF (D := G.1) (ci := 4) (v := .ref q_3) (ty := (.object "DeviceSets$Held")) (C := R_ToldSet) (T := F_ToldSet) (N := 3) hx hb ht i_ToldSet t_ToldSet t_ToldSet_ok n_ToldSet hown hK.1 hP hD hS 0 rfl rfl 1 (by decide) (ht _ m_249) (fun _ h9 => h9) rfl hin rfl (by decide +kernel) rfl rfl (Nat.le_of_ble_eq_true rfl) d_ToldSet_init_23 (fun H locs hP hD hS => ?_)
  have hP : va_P G.1 classes ([(h0, .inr (4, [.ref q_1, .ref q_3, .int 0])), (q_1, .inr (3, [.long 0, .long 0, .long 0, .long 0])), (q_3, .inr (3, [.long 0, .long 0, .long 0, .long 0]))]) H := hP
  have hD : va_D A ([(h0, .inr (4, [.ref q_1, .ref q_3, .int 0])), (q_1, .inr (3, [.long 0, .long 0, .long 0, .long 0])), (q_3, .inr (3, [.long 0, .long 0, .long 0, .long 0]))]) := hD
  refine lv_aload_n hx hb d_ToldSet_init_26 rfl (lv_at hl 0 rfl) ?_
  refine lv_iconst (v := (-1)) hx hb d_ToldSet_init_27 (by decide) ?_
  refine va_put (D := G.1) (ci := 4) (v := .int (-1)) (ty := .int) (C := R_ToldSet) (T := F_ToldSet) (N := 3) hx hb ht i_ToldSet t_ToldSet t_ToldSet_ok n_ToldSet hown hK.1 hP hD hS 0 rfl rfl 2 (by decide) (ht _ m_250) (fun _ h9 => h9) rfl (by decide +kernel) rfl rfl (Nat.le_of_ble_eq_true rfl) d_ToldSet_init_28 (fun H locs hP hD hS => ?_)
  have hP : va_P G.1 classes ([(h0, .inr (4, [.ref q_1, .ref q_3, .int (-1)])), (q_1, .inr (3, [.long 0, .long 0, .long 0, .long 0])), (q_3, .inr (3, [.long 0, .long 0, .long 0, .long 0]))]) H := hP
  have hD : va_D A ([(h0, .inr (4, [.ref q_1, .ref q_3, .int (-1)])), (q_1, .inr (3, [.long 0, .long 0, .long 0, .long 0])), (q_3, .inr (3, [.long 0, .long 0, .long 0, .long 0]))]) := hD
  refine lv_aload_n hx hb d_ToldSet_init_31 rfl (lv_at hl 0 rfl) ?_
  refine va_get (D := G.1) (ci := 4) (v := .ref q_1) (C := R_ToldSet) (T := F_ToldSet) (N := 3) hx hb ht i_ToldSet hown hK.1 hP 0 rfl rfl 0 (by decide) (ht _ m_247) (fun _ h9 => h9) rfl d_ToldSet_init_32 ?_
  refine lv_lload_n hx hb d_ToldSet_init_35 rfl (lv_at hl 1 rfl) ?_
  refine va_putN (D := G.1) (ci := 3) (v := .long x) (ty := .long) (C := R_Held) (T := F_Held) (N := 4) hx hb ht i_Held t_Held t_Held_ok n_Held hown hK.1 hP hD hS 1 rfl rfl 0 (by decide) (va_Nw.use rfl (hK.2 _ m_229)) (fun _ h9 => h9) rfl (by decide +kernel) rfl rfl (Nat.le_of_ble_eq_true rfl) d_ToldSet_init_36 (fun H locs hP hD hS => ?_)
  have hP : va_P G.1 classes ([(h0, .inr (4, [.ref q_1, .ref q_3, .int (-1)])), (q_1, .inr (3, [.long x, .long 0, .long 0, .long 0])), (q_3, .inr (3, [.long 0, .long 0, .long 0, .long 0]))]) H := hP
  have hD : va_D A ([(h0, .inr (4, [.ref q_1, .ref q_3, .int (-1)])), (q_1, .inr (3, [.long x, .long 0, .long 0, .long 0])), (q_3, .inr (3, [.long 0, .long 0, .long 0, .long 0]))]) := hD
  exact W.vret hx hb hr (fun t ht hW => ⟨⟨(fun j => ([q_1, q_3] : List Nat).getD j 0), rfl, trivial, by show va_P _ _ _ t.heap ∧ _; rw [ht]; exact ⟨hP, hD⟩⟩, hS.F ht⟩) hS.2.2 d_ToldSet_init_39
set_option maxHeartbeats 4000000 in
set_option maxRecDepth 100000 in
theorem c_Tellings_init (l : Launch) (G : sy_G) (h0 : Nat) (N9 : Nat) : Met l y_Tellings_init (sy_w y_Tellings_init b_Tellings_init 1 none) { frames := 1, cells := 7, slots := 420, locals := 24 } (va_Pc [.ref h0] (sy_KP G (fun H => va_P G.1 classes ([(h0, .inr (5, [.null, .null, .null, .null, .null, .null, .null, .int 0]))]) H ∧ va_D (fun _ => True) ([(h0, .inr (5, [.null, .null, .null, .null, .null, .null, .null, .int 0]))]) ∧ H.size = N9))) (va_Qv (S := Nat → Nat) (fun _ => True) (fun u t => va_P G.1 classes (tw G.2 h0 u 0 (fun _ _ => 0) (fun _ _ => 0)) t.heap ∧ va_D (va_A ([(h0, .inr (5, [.null, .null, .null, .null, .null, .null, .null, .int 0]))]) N9) (tw G.2 h0 u 0 (fun _ _ => 0) (fun _ _ => 0))) (va_A ([(h0, .inr (5, [.null, .null, .null, .null, .null, .null, .null, .int 0]))]) N9)) 7 420 (va_A ([(h0, .inr (5, [.null, .null, .null, .null, .null, .null, .null, .int 0]))]) N9) := by
  refine Met.ofW (cc := b_Tellings_init) (maxL := 1) (ret := none) (by decide) rfl ?_
  intro p e s m args below meth c s₁ B hml hv
  obtain ⟨rfl, ⟨hP, hD0, hN9⟩, hK⟩ := hv
  subst hN9
  have hx := B.exec
  have hb := B.bytes
  have hr := B.returns
  have hts := atoms_spec (ws := sy_w y_Tellings_init b_Tellings_init 1 none) B.pre
  have ht : ∀ wd ∈ sy_T, wd.before ([.ref h0] : List Value).toArray s = true := fun wd h => hts wd (List.mem_cons_of_mem _ h)
  have hown : s.vm.findClass R_Tellings = some m.cls := findClass_of_methodNamed B.named
  have hlocks := B.notSynchronized
  have hin : meth.name = "<init>" := (name_of_methodNamed B.named B.method).1
  have hD := va_D.self (sz := s.heap.size) hD0
  have hA : ∀ q, s.heap.size ≤ q → va_A ([(h0, .inr (5, [.null, .null, .null, .null, .null, .null, .null, .int 0]))]) s.heap.size q := fun q h => Or.inr h
  generalize hAe : va_A ([(h0, .inr (5, [.null, .null, .null, .null, .null, .null, .null, .int 0]))]) s.heap.size = A at hD hA ⊢
  have hS : va_S A s.heap s.heap [] := va_S.rf
  have hl := lv_entry ([.ref h0]) (n := 1) (Nat.le_of_ble_eq_true rfl)
  rw [lg_entry_eq]
  generalize (lg_sl ([.ref h0]) ++ List.replicate (1 - (lg_sl ([.ref h0])).length) Slot.unset).toArray = ls at hl ⊢
  have hl : lv_has ls 1 [(0, .ref h0)] := hl
  refine lv_aload_n hx hb d_Tellings_init_0 rfl (lv_at hl 0 rfl) ?_
  refine W.objInit hx hb hown (ht _ m_57) (ht _ m_46) (ht _ m_47) rfl (hl.1.trans hml.symm) rfl d_Tellings_init_1 (Nat.le_of_ble_eq_true rfl) (Nat.le_of_ble_eq_true rfl) ?_
  refine lv_aload_n hx hb d_Tellings_init_4 rfl (lv_at hl 0 rfl) ?_
  refine lv_bipush (v := 60) hx hb d_Tellings_init_5 (by decide) ?_
  refine sy_newa (atype := .int) (ty := .int) hx hb (ht _ m_85) rfl hK.1 0 rfl hP hD hS hA (n := 60) (N' := 60) (a0 := (60, .inl (fun _ => 0))) (fun _ => rfl) (by decide) (by decide) (by decide) (Nat.le_of_ble_eq_true rfl) (Nat.le_of_ble_eq_true rfl) d_Tellings_init_7 (fun q_1 H hP hD hS => ?_)
  have hP : va_P G.1 classes ([(h0, .inr (5, [.null, .null, .null, .null, .null, .null, .null, .int 0])), (q_1, .inl (G.2 0, 60, .inl ((fun _ => 0))))]) H := hP
  have hD : va_D A ([(h0, .inr (5, [.null, .null, .null, .null, .null, .null, .null, .int 0])), (q_1, .inl (G.2 0, 60, .inl ((fun _ => 0))))]) := hD
  refine va_putF (D := G.1) (ci := 5) (v := .ref q_1) (ty := (.array .int)) (C := R_Tellings) (T := F_Tellings) (N := 8) hx hb ht i_Tellings t_Tellings t_Tellings_ok n_Tellings hown hK.1 hP hD hS 0 rfl rfl 0 (by decide) (ht _ m_58) (fun _ h9 => h9) rfl hin rfl (by decide +kernel) rfl rfl (Nat.le_of_ble_eq_true rfl) d_Tellings_init_9 (fun H locs hP hD hS => ?_)
  have hP : va_P G.1 classes ([(h0, .inr (5, [.ref q_1, .null, .null, .null, .null, .null, .null, .int 0])), (q_1, .inl (G.2 0, 60, .inl ((fun _ => 0))))]) H := hP
  have hD : va_D A ([(h0, .inr (5, [.ref q_1, .null, .null, .null, .null, .null, .null, .int 0])), (q_1, .inl (G.2 0, 60, .inl ((fun _ => 0))))]) := hD
  refine lv_aload_n hx hb d_Tellings_init_12 rfl (lv_at hl 0 rfl) ?_
  refine lv_bipush (v := 60) hx hb d_Tellings_init_13 (by decide) ?_
  refine sy_newa (atype := .int) (ty := .int) hx hb (ht _ m_85) rfl hK.1 0 rfl hP hD hS hA (n := 60) (N' := 60) (a0 := (60, .inl (fun _ => 0))) (fun _ => rfl) (by decide) (by decide) (by decide) (Nat.le_of_ble_eq_true rfl) (Nat.le_of_ble_eq_true rfl) d_Tellings_init_15 (fun q_2 H hP hD hS => ?_)
  have hP : va_P G.1 classes ([(h0, .inr (5, [.ref q_1, .null, .null, .null, .null, .null, .null, .int 0])), (q_1, .inl (G.2 0, 60, .inl ((fun _ => 0)))), (q_2, .inl (G.2 0, 60, .inl ((fun _ => 0))))]) H := hP
  have hD : va_D A ([(h0, .inr (5, [.ref q_1, .null, .null, .null, .null, .null, .null, .int 0])), (q_1, .inl (G.2 0, 60, .inl ((fun _ => 0)))), (q_2, .inl (G.2 0, 60, .inl ((fun _ => 0))))]) := hD
  refine va_putF (D := G.1) (ci := 5) (v := .ref q_2) (ty := (.array .int)) (C := R_Tellings) (T := F_Tellings) (N := 8) hx hb ht i_Tellings t_Tellings t_Tellings_ok n_Tellings hown hK.1 hP hD hS 0 rfl rfl 1 (by decide) (ht _ m_59) (fun _ h9 => h9) rfl hin rfl (by decide +kernel) rfl rfl (Nat.le_of_ble_eq_true rfl) d_Tellings_init_17 (fun H locs hP hD hS => ?_)
  have hP : va_P G.1 classes ([(h0, .inr (5, [.ref q_1, .ref q_2, .null, .null, .null, .null, .null, .int 0])), (q_1, .inl (G.2 0, 60, .inl ((fun _ => 0)))), (q_2, .inl (G.2 0, 60, .inl ((fun _ => 0))))]) H := hP
  have hD : va_D A ([(h0, .inr (5, [.ref q_1, .ref q_2, .null, .null, .null, .null, .null, .int 0])), (q_1, .inl (G.2 0, 60, .inl ((fun _ => 0)))), (q_2, .inl (G.2 0, 60, .inl ((fun _ => 0))))]) := hD
  refine lv_aload_n hx hb d_Tellings_init_20 rfl (lv_at hl 0 rfl) ?_
  refine lv_bipush (v := 60) hx hb d_Tellings_init_21 (by decide) ?_
  refine sy_newa (atype := .int) (ty := .int) hx hb (ht _ m_85) rfl hK.1 0 rfl hP hD hS hA (n := 60) (N' := 60) (a0 := (60, .inl (fun _ => 0))) (fun _ => rfl) (by decide) (by decide) (by decide) (Nat.le_of_ble_eq_true rfl) (Nat.le_of_ble_eq_true rfl) d_Tellings_init_23 (fun q_3 H hP hD hS => ?_)
  have hP : va_P G.1 classes ([(h0, .inr (5, [.ref q_1, .ref q_2, .null, .null, .null, .null, .null, .int 0])), (q_1, .inl (G.2 0, 60, .inl ((fun _ => 0)))), (q_2, .inl (G.2 0, 60, .inl ((fun _ => 0)))), (q_3, .inl (G.2 0, 60, .inl ((fun _ => 0))))]) H := hP
  have hD : va_D A ([(h0, .inr (5, [.ref q_1, .ref q_2, .null, .null, .null, .null, .null, .int 0])), (q_1, .inl (G.2 0, 60, .inl ((fun _ => 0)))), (q_2, .inl (G.2 0, 60, .inl ((fun _ => 0)))), (q_3, .inl (G.2 0, 60, .inl ((fun _ => 0))))]) := hD
  refine va_putF (D := G.1) (ci := 5) (v := .ref q_3) (ty := (.array .int)) (C := R_Tellings) (T := F_Tellings) (N := 8) hx hb ht i_Tellings t_Tellings t_Tellings_ok n_Tellings hown hK.1 hP hD hS 0 rfl rfl 2 (by decide) (ht _ m_60) (fun _ h9 => h9) rfl hin rfl (by decide +kernel) rfl rfl (Nat.le_of_ble_eq_true rfl) d_Tellings_init_25 (fun H locs hP hD hS => ?_)
  have hP : va_P G.1 classes ([(h0, .inr (5, [.ref q_1, .ref q_2, .ref q_3, .null, .null, .null, .null, .int 0])), (q_1, .inl (G.2 0, 60, .inl ((fun _ => 0)))), (q_2, .inl (G.2 0, 60, .inl ((fun _ => 0)))), (q_3, .inl (G.2 0, 60, .inl ((fun _ => 0))))]) H := hP
  have hD : va_D A ([(h0, .inr (5, [.ref q_1, .ref q_2, .ref q_3, .null, .null, .null, .null, .int 0])), (q_1, .inl (G.2 0, 60, .inl ((fun _ => 0)))), (q_2, .inl (G.2 0, 60, .inl ((fun _ => 0)))), (q_3, .inl (G.2 0, 60, .inl ((fun _ => 0))))]) := hD
  refine lv_aload_n hx hb d_Tellings_init_28 rfl (lv_at hl 0 rfl) ?_
  refine lv_bipush (v := 60) hx hb d_Tellings_init_29 (by decide) ?_
  refine sy_newa (atype := .int) (ty := .int) hx hb (ht _ m_85) rfl hK.1 0 rfl hP hD hS hA (n := 60) (N' := 60) (a0 := (60, .inl (fun _ => 0))) (fun _ => rfl) (by decide) (by decide) (by decide) (Nat.le_of_ble_eq_true rfl) (Nat.le_of_ble_eq_true rfl) d_Tellings_init_31 (fun q_4 H hP hD hS => ?_)
  have hP : va_P G.1 classes ([(h0, .inr (5, [.ref q_1, .ref q_2, .ref q_3, .null, .null, .null, .null, .int 0])), (q_1, .inl (G.2 0, 60, .inl ((fun _ => 0)))), (q_2, .inl (G.2 0, 60, .inl ((fun _ => 0)))), (q_3, .inl (G.2 0, 60, .inl ((fun _ => 0)))), (q_4, .inl (G.2 0, 60, .inl ((fun _ => 0))))]) H := hP
  have hD : va_D A ([(h0, .inr (5, [.ref q_1, .ref q_2, .ref q_3, .null, .null, .null, .null, .int 0])), (q_1, .inl (G.2 0, 60, .inl ((fun _ => 0)))), (q_2, .inl (G.2 0, 60, .inl ((fun _ => 0)))), (q_3, .inl (G.2 0, 60, .inl ((fun _ => 0)))), (q_4, .inl (G.2 0, 60, .inl ((fun _ => 0))))]) := hD
  refine va_putF (D := G.1) (ci := 5) (v := .ref q_4) (ty := (.array .int)) (C := R_Tellings) (T := F_Tellings) (N := 8) hx hb ht i_Tellings t_Tellings t_Tellings_ok n_Tellings hown hK.1 hP hD hS 0 rfl rfl 3 (by decide) (ht _ m_61) (fun _ h9 => h9) rfl hin rfl (by decide +kernel) rfl rfl (Nat.le_of_ble_eq_true rfl) d_Tellings_init_33 (fun H locs hP hD hS => ?_)
  have hP : va_P G.1 classes ([(h0, .inr (5, [.ref q_1, .ref q_2, .ref q_3, .ref q_4, .null, .null, .null, .int 0])), (q_1, .inl (G.2 0, 60, .inl ((fun _ => 0)))), (q_2, .inl (G.2 0, 60, .inl ((fun _ => 0)))), (q_3, .inl (G.2 0, 60, .inl ((fun _ => 0)))), (q_4, .inl (G.2 0, 60, .inl ((fun _ => 0))))]) H := hP
  have hD : va_D A ([(h0, .inr (5, [.ref q_1, .ref q_2, .ref q_3, .ref q_4, .null, .null, .null, .int 0])), (q_1, .inl (G.2 0, 60, .inl ((fun _ => 0)))), (q_2, .inl (G.2 0, 60, .inl ((fun _ => 0)))), (q_3, .inl (G.2 0, 60, .inl ((fun _ => 0)))), (q_4, .inl (G.2 0, 60, .inl ((fun _ => 0))))]) := hD
  refine lv_aload_n hx hb d_Tellings_init_36 rfl (lv_at hl 0 rfl) ?_
  refine lv_bipush (v := 60) hx hb d_Tellings_init_37 (by decide) ?_
  refine sy_newa (atype := .long) (ty := .long) hx hb (ht _ m_86) rfl hK.1 1 rfl hP hD hS hA (n := 60) (N' := 60) (a0 := (60, .inr (.inl (fun _ => 0)))) (fun _ => rfl) (by decide) (by decide) (by decide) (Nat.le_of_ble_eq_true rfl) (Nat.le_of_ble_eq_true rfl) d_Tellings_init_39 (fun q_5 H hP hD hS => ?_)
  have hP : va_P G.1 classes ([(h0, .inr (5, [.ref q_1, .ref q_2, .ref q_3, .ref q_4, .null, .null, .null, .int 0])), (q_1, .inl (G.2 0, 60, .inl ((fun _ => 0)))), (q_2, .inl (G.2 0, 60, .inl ((fun _ => 0)))), (q_3, .inl (G.2 0, 60, .inl ((fun _ => 0)))), (q_4, .inl (G.2 0, 60, .inl ((fun _ => 0)))), (q_5, .inl (G.2 1, 60, .inr (.inl ((fun _ => 0)))))]) H := hP
  have hD : va_D A ([(h0, .inr (5, [.ref q_1, .ref q_2, .ref q_3, .ref q_4, .null, .null, .null, .int 0])), (q_1, .inl (G.2 0, 60, .inl ((fun _ => 0)))), (q_2, .inl (G.2 0, 60, .inl ((fun _ => 0)))), (q_3, .inl (G.2 0, 60, .inl ((fun _ => 0)))), (q_4, .inl (G.2 0, 60, .inl ((fun _ => 0)))), (q_5, .inl (G.2 1, 60, .inr (.inl ((fun _ => 0)))))]) := hD
  refine va_putF (D := G.1) (ci := 5) (v := .ref q_5) (ty := (.array .long)) (C := R_Tellings) (T := F_Tellings) (N := 8) hx hb ht i_Tellings t_Tellings t_Tellings_ok n_Tellings hown hK.1 hP hD hS 0 rfl rfl 4 (by decide) (ht _ m_62) (fun _ h9 => h9) rfl hin rfl (by decide +kernel) rfl rfl (Nat.le_of_ble_eq_true rfl) d_Tellings_init_41 (fun H locs hP hD hS => ?_)
  have hP : va_P G.1 classes ([(h0, .inr (5, [.ref q_1, .ref q_2, .ref q_3, .ref q_4, .ref q_5, .null, .null, .int 0])), (q_1, .inl (G.2 0, 60, .inl ((fun _ => 0)))), (q_2, .inl (G.2 0, 60, .inl ((fun _ => 0)))), (q_3, .inl (G.2 0, 60, .inl ((fun _ => 0)))), (q_4, .inl (G.2 0, 60, .inl ((fun _ => 0)))), (q_5, .inl (G.2 1, 60, .inr (.inl ((fun _ => 0)))))]) H := hP
  have hD : va_D A ([(h0, .inr (5, [.ref q_1, .ref q_2, .ref q_3, .ref q_4, .ref q_5, .null, .null, .int 0])), (q_1, .inl (G.2 0, 60, .inl ((fun _ => 0)))), (q_2, .inl (G.2 0, 60, .inl ((fun _ => 0)))), (q_3, .inl (G.2 0, 60, .inl ((fun _ => 0)))), (q_4, .inl (G.2 0, 60, .inl ((fun _ => 0)))), (q_5, .inl (G.2 1, 60, .inr (.inl ((fun _ => 0)))))]) := hD
  refine lv_aload_n hx hb d_Tellings_init_44 rfl (lv_at hl 0 rfl) ?_
  refine lv_bipush (v := 60) hx hb d_Tellings_init_45 (by decide) ?_
  refine sy_newa (atype := .long) (ty := .long) hx hb (ht _ m_86) rfl hK.1 1 rfl hP hD hS hA (n := 60) (N' := 60) (a0 := (60, .inr (.inl (fun _ => 0)))) (fun _ => rfl) (by decide) (by decide) (by decide) (Nat.le_of_ble_eq_true rfl) (Nat.le_of_ble_eq_true rfl) d_Tellings_init_47 (fun q_6 H hP hD hS => ?_)
  have hP : va_P G.1 classes ([(h0, .inr (5, [.ref q_1, .ref q_2, .ref q_3, .ref q_4, .ref q_5, .null, .null, .int 0])), (q_1, .inl (G.2 0, 60, .inl ((fun _ => 0)))), (q_2, .inl (G.2 0, 60, .inl ((fun _ => 0)))), (q_3, .inl (G.2 0, 60, .inl ((fun _ => 0)))), (q_4, .inl (G.2 0, 60, .inl ((fun _ => 0)))), (q_5, .inl (G.2 1, 60, .inr (.inl ((fun _ => 0))))), (q_6, .inl (G.2 1, 60, .inr (.inl ((fun _ => 0)))))]) H := hP
  have hD : va_D A ([(h0, .inr (5, [.ref q_1, .ref q_2, .ref q_3, .ref q_4, .ref q_5, .null, .null, .int 0])), (q_1, .inl (G.2 0, 60, .inl ((fun _ => 0)))), (q_2, .inl (G.2 0, 60, .inl ((fun _ => 0)))), (q_3, .inl (G.2 0, 60, .inl ((fun _ => 0)))), (q_4, .inl (G.2 0, 60, .inl ((fun _ => 0)))), (q_5, .inl (G.2 1, 60, .inr (.inl ((fun _ => 0))))), (q_6, .inl (G.2 1, 60, .inr (.inl ((fun _ => 0)))))]) := hD
  refine va_putF (D := G.1) (ci := 5) (v := .ref q_6) (ty := (.array .long)) (C := R_Tellings) (T := F_Tellings) (N := 8) hx hb ht i_Tellings t_Tellings t_Tellings_ok n_Tellings hown hK.1 hP hD hS 0 rfl rfl 5 (by decide) (ht _ m_64) (fun _ h9 => h9) rfl hin rfl (by decide +kernel) rfl rfl (Nat.le_of_ble_eq_true rfl) d_Tellings_init_49 (fun H locs hP hD hS => ?_)
  have hP : va_P G.1 classes ([(h0, .inr (5, [.ref q_1, .ref q_2, .ref q_3, .ref q_4, .ref q_5, .ref q_6, .null, .int 0])), (q_1, .inl (G.2 0, 60, .inl ((fun _ => 0)))), (q_2, .inl (G.2 0, 60, .inl ((fun _ => 0)))), (q_3, .inl (G.2 0, 60, .inl ((fun _ => 0)))), (q_4, .inl (G.2 0, 60, .inl ((fun _ => 0)))), (q_5, .inl (G.2 1, 60, .inr (.inl ((fun _ => 0))))), (q_6, .inl (G.2 1, 60, .inr (.inl ((fun _ => 0)))))]) H := hP
  have hD : va_D A ([(h0, .inr (5, [.ref q_1, .ref q_2, .ref q_3, .ref q_4, .ref q_5, .ref q_6, .null, .int 0])), (q_1, .inl (G.2 0, 60, .inl ((fun _ => 0)))), (q_2, .inl (G.2 0, 60, .inl ((fun _ => 0)))), (q_3, .inl (G.2 0, 60, .inl ((fun _ => 0)))), (q_4, .inl (G.2 0, 60, .inl ((fun _ => 0)))), (q_5, .inl (G.2 1, 60, .inr (.inl ((fun _ => 0))))), (q_6, .inl (G.2 1, 60, .inr (.inl ((fun _ => 0)))))]) := hD
  refine lv_aload_n hx hb d_Tellings_init_52 rfl (lv_at hl 0 rfl) ?_
  refine lv_bipush (v := 60) hx hb d_Tellings_init_53 (by decide) ?_
  refine sy_newa (atype := .long) (ty := .long) hx hb (ht _ m_86) rfl hK.1 1 rfl hP hD hS hA (n := 60) (N' := 60) (a0 := (60, .inr (.inl (fun _ => 0)))) (fun _ => rfl) (by decide) (by decide) (by decide) (Nat.le_of_ble_eq_true rfl) (Nat.le_of_ble_eq_true rfl) d_Tellings_init_55 (fun q_7 H hP hD hS => ?_)
  have hP : va_P G.1 classes ([(h0, .inr (5, [.ref q_1, .ref q_2, .ref q_3, .ref q_4, .ref q_5, .ref q_6, .null, .int 0])), (q_1, .inl (G.2 0, 60, .inl ((fun _ => 0)))), (q_2, .inl (G.2 0, 60, .inl ((fun _ => 0)))), (q_3, .inl (G.2 0, 60, .inl ((fun _ => 0)))), (q_4, .inl (G.2 0, 60, .inl ((fun _ => 0)))), (q_5, .inl (G.2 1, 60, .inr (.inl ((fun _ => 0))))), (q_6, .inl (G.2 1, 60, .inr (.inl ((fun _ => 0))))), (q_7, .inl (G.2 1, 60, .inr (.inl ((fun _ => 0)))))]) H := hP
  have hD : va_D A ([(h0, .inr (5, [.ref q_1, .ref q_2, .ref q_3, .ref q_4, .ref q_5, .ref q_6, .null, .int 0])), (q_1, .inl (G.2 0, 60, .inl ((fun _ => 0)))), (q_2, .inl (G.2 0, 60, .inl ((fun _ => 0)))), (q_3, .inl (G.2 0, 60, .inl ((fun _ => 0)))), (q_4, .inl (G.2 0, 60, .inl ((fun _ => 0)))), (q_5, .inl (G.2 1, 60, .inr (.inl ((fun _ => 0))))), (q_6, .inl (G.2 1, 60, .inr (.inl ((fun _ => 0))))), (q_7, .inl (G.2 1, 60, .inr (.inl ((fun _ => 0)))))]) := hD
  refine va_putF (D := G.1) (ci := 5) (v := .ref q_7) (ty := (.array .long)) (C := R_Tellings) (T := F_Tellings) (N := 8) hx hb ht i_Tellings t_Tellings t_Tellings_ok n_Tellings hown hK.1 hP hD hS 0 rfl rfl 6 (by decide) (ht _ m_66) (fun _ h9 => h9) rfl hin rfl (by decide +kernel) rfl rfl (Nat.le_of_ble_eq_true rfl) d_Tellings_init_57 (fun H locs hP hD hS => ?_)
  have hP : va_P G.1 classes ([(h0, .inr (5, [.ref q_1, .ref q_2, .ref q_3, .ref q_4, .ref q_5, .ref q_6, .ref q_7, .int 0])), (q_1, .inl (G.2 0, 60, .inl ((fun _ => 0)))), (q_2, .inl (G.2 0, 60, .inl ((fun _ => 0)))), (q_3, .inl (G.2 0, 60, .inl ((fun _ => 0)))), (q_4, .inl (G.2 0, 60, .inl ((fun _ => 0)))), (q_5, .inl (G.2 1, 60, .inr (.inl ((fun _ => 0))))), (q_6, .inl (G.2 1, 60, .inr (.inl ((fun _ => 0))))), (q_7, .inl (G.2 1, 60, .inr (.inl ((fun _ => 0)))))]) H := hP
  have hD : va_D A ([(h0, .inr (5, [.ref q_1, .ref q_2, .ref q_3, .ref q_4, .ref q_5, .ref q_6, .ref q_7, .int 0])), (q_1, .inl (G.2 0, 60, .inl ((fun _ => 0)))), (q_2, .inl (G.2 0, 60, .inl ((fun _ => 0)))), (q_3, .inl (G.2 0, 60, .inl ((fun _ => 0)))), (q_4, .inl (G.2 0, 60, .inl ((fun _ => 0)))), (q_5, .inl (G.2 1, 60, .inr (.inl ((fun _ => 0))))), (q_6, .inl (G.2 1, 60, .inr (.inl ((fun _ => 0))))), (q_7, .inl (G.2 1, 60, .inr (.inl ((fun _ => 0)))))]) := hD
  exact W.vret hx hb hr (fun t ht hW => ⟨⟨(fun j => ([q_1, q_2, q_3, q_4, q_5, q_6, q_7] : List Nat).getD j 0), rfl, trivial, by show va_P _ _ _ t.heap ∧ _; rw [ht]; exact ⟨hP, hD⟩⟩, hS.F ht⟩) hS.2.2 d_Tellings_init_60
set_option maxHeartbeats 4000000 in
set_option maxRecDepth 100000 in
theorem c_Corrections_init (l : Launch) (G : sy_G) (h0 : Nat) (N9 : Nat) : Met l y_Corrections_init (sy_w y_Corrections_init b_Corrections_init 1 none) { frames := 1, cells := 5, slots := 100, locals := 24 } (va_Pc [.ref h0] (sy_KP G (fun H => va_P G.1 classes ([(h0, .inr (6, [.null, .null, .null, .null, .null, .int 0]))]) H ∧ va_D (fun _ => True) ([(h0, .inr (6, [.null, .null, .null, .null, .null, .int 0]))]) ∧ H.size = N9))) (va_Qv (S := Nat → Nat) (fun _ => True) (fun u t => va_P G.1 classes (cw G.2 h0 u 0 (fun _ _ => 0) (fun _ _ => 0)) t.heap ∧ va_D (va_A ([(h0, .inr (6, [.null, .null, .null, .null, .null, .int 0]))]) N9) (cw G.2 h0 u 0 (fun _ _ => 0) (fun _ _ => 0))) (va_A ([(h0, .inr (6, [.null, .null, .null, .null, .null, .int 0]))]) N9)) 5 100 (va_A ([(h0, .inr (6, [.null, .null, .null, .null, .null, .int 0]))]) N9) := by
  refine Met.ofW (cc := b_Corrections_init) (maxL := 1) (ret := none) (by decide) rfl ?_
  intro p e s m args below meth c s₁ B hml hv
  obtain ⟨rfl, ⟨hP, hD0, hN9⟩, hK⟩ := hv
  subst hN9
  have hx := B.exec
  have hb := B.bytes
  have hr := B.returns
  have hts := atoms_spec (ws := sy_w y_Corrections_init b_Corrections_init 1 none) B.pre
  have ht : ∀ wd ∈ sy_T, wd.before ([.ref h0] : List Value).toArray s = true := fun wd h => hts wd (List.mem_cons_of_mem _ h)
  have hown : s.vm.findClass R_Corrections = some m.cls := findClass_of_methodNamed B.named
  have hlocks := B.notSynchronized
  have hin : meth.name = "<init>" := (name_of_methodNamed B.named B.method).1
  have hD := va_D.self (sz := s.heap.size) hD0
  have hA : ∀ q, s.heap.size ≤ q → va_A ([(h0, .inr (6, [.null, .null, .null, .null, .null, .int 0]))]) s.heap.size q := fun q h => Or.inr h
  generalize hAe : va_A ([(h0, .inr (6, [.null, .null, .null, .null, .null, .int 0]))]) s.heap.size = A at hD hA ⊢
  have hS : va_S A s.heap s.heap [] := va_S.rf
  have hl := lv_entry ([.ref h0]) (n := 1) (Nat.le_of_ble_eq_true rfl)
  rw [lg_entry_eq]
  generalize (lg_sl ([.ref h0]) ++ List.replicate (1 - (lg_sl ([.ref h0])).length) Slot.unset).toArray = ls at hl ⊢
  have hl : lv_has ls 1 [(0, .ref h0)] := hl
  refine lv_aload_n hx hb d_Corrections_init_0 rfl (lv_at hl 0 rfl) ?_
  refine W.objInit hx hb hown (ht _ m_92) (ht _ m_46) (ht _ m_47) rfl (hl.1.trans hml.symm) rfl d_Corrections_init_1 (Nat.le_of_ble_eq_true rfl) (Nat.le_of_ble_eq_true rfl) ?_
  refine lv_aload_n hx hb d_Corrections_init_4 rfl (lv_at hl 0 rfl) ?_
  refine lv_bipush (v := 20) hx hb d_Corrections_init_5 (by decide) ?_
  refine sy_newa (atype := .int) (ty := .int) hx hb (ht _ m_85) rfl hK.1 0 rfl hP hD hS hA (n := 20) (N' := 20) (a0 := (20, .inl (fun _ => 0))) (fun _ => rfl) (by decide) (by decide) (by decide) (Nat.le_of_ble_eq_true rfl) (Nat.le_of_ble_eq_true rfl) d_Corrections_init_7 (fun q_1 H hP hD hS => ?_)
  have hP : va_P G.1 classes ([(h0, .inr (6, [.null, .null, .null, .null, .null, .int 0])), (q_1, .inl (G.2 0, 20, .inl ((fun _ => 0))))]) H := hP
  have hD : va_D A ([(h0, .inr (6, [.null, .null, .null, .null, .null, .int 0])), (q_1, .inl (G.2 0, 20, .inl ((fun _ => 0))))]) := hD
  refine va_putF (D := G.1) (ci := 6) (v := .ref q_1) (ty := (.array .int)) (C := R_Corrections) (T := F_Corrections) (N := 6) hx hb ht i_Corrections t_Corrections t_Corrections_ok n_Corrections hown hK.1 hP hD hS 0 rfl rfl 0 (by decide) (ht _ m_93) (fun _ h9 => h9) rfl hin rfl (by decide +kernel) rfl rfl (Nat.le_of_ble_eq_true rfl) d_Corrections_init_9 (fun H locs hP hD hS => ?_)
  have hP : va_P G.1 classes ([(h0, .inr (6, [.ref q_1, .null, .null, .null, .null, .int 0])), (q_1, .inl (G.2 0, 20, .inl ((fun _ => 0))))]) H := hP
  have hD : va_D A ([(h0, .inr (6, [.ref q_1, .null, .null, .null, .null, .int 0])), (q_1, .inl (G.2 0, 20, .inl ((fun _ => 0))))]) := hD
  refine lv_aload_n hx hb d_Corrections_init_12 rfl (lv_at hl 0 rfl) ?_
  refine lv_bipush (v := 20) hx hb d_Corrections_init_13 (by decide) ?_
  refine sy_newa (atype := .int) (ty := .int) hx hb (ht _ m_85) rfl hK.1 0 rfl hP hD hS hA (n := 20) (N' := 20) (a0 := (20, .inl (fun _ => 0))) (fun _ => rfl) (by decide) (by decide) (by decide) (Nat.le_of_ble_eq_true rfl) (Nat.le_of_ble_eq_true rfl) d_Corrections_init_15 (fun q_2 H hP hD hS => ?_)
  have hP : va_P G.1 classes ([(h0, .inr (6, [.ref q_1, .null, .null, .null, .null, .int 0])), (q_1, .inl (G.2 0, 20, .inl ((fun _ => 0)))), (q_2, .inl (G.2 0, 20, .inl ((fun _ => 0))))]) H := hP
  have hD : va_D A ([(h0, .inr (6, [.ref q_1, .null, .null, .null, .null, .int 0])), (q_1, .inl (G.2 0, 20, .inl ((fun _ => 0)))), (q_2, .inl (G.2 0, 20, .inl ((fun _ => 0))))]) := hD
  refine va_putF (D := G.1) (ci := 6) (v := .ref q_2) (ty := (.array .int)) (C := R_Corrections) (T := F_Corrections) (N := 6) hx hb ht i_Corrections t_Corrections t_Corrections_ok n_Corrections hown hK.1 hP hD hS 0 rfl rfl 1 (by decide) (ht _ m_94) (fun _ h9 => h9) rfl hin rfl (by decide +kernel) rfl rfl (Nat.le_of_ble_eq_true rfl) d_Corrections_init_17 (fun H locs hP hD hS => ?_)
  have hP : va_P G.1 classes ([(h0, .inr (6, [.ref q_1, .ref q_2, .null, .null, .null, .int 0])), (q_1, .inl (G.2 0, 20, .inl ((fun _ => 0)))), (q_2, .inl (G.2 0, 20, .inl ((fun _ => 0))))]) H := hP
  have hD : va_D A ([(h0, .inr (6, [.ref q_1, .ref q_2, .null, .null, .null, .int 0])), (q_1, .inl (G.2 0, 20, .inl ((fun _ => 0)))), (q_2, .inl (G.2 0, 20, .inl ((fun _ => 0))))]) := hD
  refine lv_aload_n hx hb d_Corrections_init_20 rfl (lv_at hl 0 rfl) ?_
  refine lv_bipush (v := 20) hx hb d_Corrections_init_21 (by decide) ?_
  refine sy_newa (atype := .long) (ty := .long) hx hb (ht _ m_86) rfl hK.1 1 rfl hP hD hS hA (n := 20) (N' := 20) (a0 := (20, .inr (.inl (fun _ => 0)))) (fun _ => rfl) (by decide) (by decide) (by decide) (Nat.le_of_ble_eq_true rfl) (Nat.le_of_ble_eq_true rfl) d_Corrections_init_23 (fun q_3 H hP hD hS => ?_)
  have hP : va_P G.1 classes ([(h0, .inr (6, [.ref q_1, .ref q_2, .null, .null, .null, .int 0])), (q_1, .inl (G.2 0, 20, .inl ((fun _ => 0)))), (q_2, .inl (G.2 0, 20, .inl ((fun _ => 0)))), (q_3, .inl (G.2 1, 20, .inr (.inl ((fun _ => 0)))))]) H := hP
  have hD : va_D A ([(h0, .inr (6, [.ref q_1, .ref q_2, .null, .null, .null, .int 0])), (q_1, .inl (G.2 0, 20, .inl ((fun _ => 0)))), (q_2, .inl (G.2 0, 20, .inl ((fun _ => 0)))), (q_3, .inl (G.2 1, 20, .inr (.inl ((fun _ => 0)))))]) := hD
  refine va_putF (D := G.1) (ci := 6) (v := .ref q_3) (ty := (.array .long)) (C := R_Corrections) (T := F_Corrections) (N := 6) hx hb ht i_Corrections t_Corrections t_Corrections_ok n_Corrections hown hK.1 hP hD hS 0 rfl rfl 2 (by decide) (ht _ m_95) (fun _ h9 => h9) rfl hin rfl (by decide +kernel) rfl rfl (Nat.le_of_ble_eq_true rfl) d_Corrections_init_25 (fun H locs hP hD hS => ?_)
  have hP : va_P G.1 classes ([(h0, .inr (6, [.ref q_1, .ref q_2, .ref q_3, .null, .null, .int 0])), (q_1, .inl (G.2 0, 20, .inl ((fun _ => 0)))), (q_2, .inl (G.2 0, 20, .inl ((fun _ => 0)))), (q_3, .inl (G.2 1, 20, .inr (.inl ((fun _ => 0)))))]) H := hP
  have hD : va_D A ([(h0, .inr (6, [.ref q_1, .ref q_2, .ref q_3, .null, .null, .int 0])), (q_1, .inl (G.2 0, 20, .inl ((fun _ => 0)))), (q_2, .inl (G.2 0, 20, .inl ((fun _ => 0)))), (q_3, .inl (G.2 1, 20, .inr (.inl ((fun _ => 0)))))]) := hD
  refine lv_aload_n hx hb d_Corrections_init_28 rfl (lv_at hl 0 rfl) ?_
  refine lv_bipush (v := 20) hx hb d_Corrections_init_29 (by decide) ?_
  refine sy_newa (atype := .long) (ty := .long) hx hb (ht _ m_86) rfl hK.1 1 rfl hP hD hS hA (n := 20) (N' := 20) (a0 := (20, .inr (.inl (fun _ => 0)))) (fun _ => rfl) (by decide) (by decide) (by decide) (Nat.le_of_ble_eq_true rfl) (Nat.le_of_ble_eq_true rfl) d_Corrections_init_31 (fun q_4 H hP hD hS => ?_)
  have hP : va_P G.1 classes ([(h0, .inr (6, [.ref q_1, .ref q_2, .ref q_3, .null, .null, .int 0])), (q_1, .inl (G.2 0, 20, .inl ((fun _ => 0)))), (q_2, .inl (G.2 0, 20, .inl ((fun _ => 0)))), (q_3, .inl (G.2 1, 20, .inr (.inl ((fun _ => 0))))), (q_4, .inl (G.2 1, 20, .inr (.inl ((fun _ => 0)))))]) H := hP
  have hD : va_D A ([(h0, .inr (6, [.ref q_1, .ref q_2, .ref q_3, .null, .null, .int 0])), (q_1, .inl (G.2 0, 20, .inl ((fun _ => 0)))), (q_2, .inl (G.2 0, 20, .inl ((fun _ => 0)))), (q_3, .inl (G.2 1, 20, .inr (.inl ((fun _ => 0))))), (q_4, .inl (G.2 1, 20, .inr (.inl ((fun _ => 0)))))]) := hD
  refine va_putF (D := G.1) (ci := 6) (v := .ref q_4) (ty := (.array .long)) (C := R_Corrections) (T := F_Corrections) (N := 6) hx hb ht i_Corrections t_Corrections t_Corrections_ok n_Corrections hown hK.1 hP hD hS 0 rfl rfl 3 (by decide) (ht _ m_96) (fun _ h9 => h9) rfl hin rfl (by decide +kernel) rfl rfl (Nat.le_of_ble_eq_true rfl) d_Corrections_init_33 (fun H locs hP hD hS => ?_)
  have hP : va_P G.1 classes ([(h0, .inr (6, [.ref q_1, .ref q_2, .ref q_3, .ref q_4, .null, .int 0])), (q_1, .inl (G.2 0, 20, .inl ((fun _ => 0)))), (q_2, .inl (G.2 0, 20, .inl ((fun _ => 0)))), (q_3, .inl (G.2 1, 20, .inr (.inl ((fun _ => 0))))), (q_4, .inl (G.2 1, 20, .inr (.inl ((fun _ => 0)))))]) H := hP
  have hD : va_D A ([(h0, .inr (6, [.ref q_1, .ref q_2, .ref q_3, .ref q_4, .null, .int 0])), (q_1, .inl (G.2 0, 20, .inl ((fun _ => 0)))), (q_2, .inl (G.2 0, 20, .inl ((fun _ => 0)))), (q_3, .inl (G.2 1, 20, .inr (.inl ((fun _ => 0))))), (q_4, .inl (G.2 1, 20, .inr (.inl ((fun _ => 0)))))]) := hD
  refine lv_aload_n hx hb d_Corrections_init_36 rfl (lv_at hl 0 rfl) ?_
  refine lv_bipush (v := 20) hx hb d_Corrections_init_37 (by decide) ?_
  refine sy_newa (atype := .long) (ty := .long) hx hb (ht _ m_86) rfl hK.1 1 rfl hP hD hS hA (n := 20) (N' := 20) (a0 := (20, .inr (.inl (fun _ => 0)))) (fun _ => rfl) (by decide) (by decide) (by decide) (Nat.le_of_ble_eq_true rfl) (Nat.le_of_ble_eq_true rfl) d_Corrections_init_39 (fun q_5 H hP hD hS => ?_)
  have hP : va_P G.1 classes ([(h0, .inr (6, [.ref q_1, .ref q_2, .ref q_3, .ref q_4, .null, .int 0])), (q_1, .inl (G.2 0, 20, .inl ((fun _ => 0)))), (q_2, .inl (G.2 0, 20, .inl ((fun _ => 0)))), (q_3, .inl (G.2 1, 20, .inr (.inl ((fun _ => 0))))), (q_4, .inl (G.2 1, 20, .inr (.inl ((fun _ => 0))))), (q_5, .inl (G.2 1, 20, .inr (.inl ((fun _ => 0)))))]) H := hP
  have hD : va_D A ([(h0, .inr (6, [.ref q_1, .ref q_2, .ref q_3, .ref q_4, .null, .int 0])), (q_1, .inl (G.2 0, 20, .inl ((fun _ => 0)))), (q_2, .inl (G.2 0, 20, .inl ((fun _ => 0)))), (q_3, .inl (G.2 1, 20, .inr (.inl ((fun _ => 0))))), (q_4, .inl (G.2 1, 20, .inr (.inl ((fun _ => 0))))), (q_5, .inl (G.2 1, 20, .inr (.inl ((fun _ => 0)))))]) := hD
  refine va_putF (D := G.1) (ci := 6) (v := .ref q_5) (ty := (.array .long)) (C := R_Corrections) (T := F_Corrections) (N := 6) hx hb ht i_Corrections t_Corrections t_Corrections_ok n_Corrections hown hK.1 hP hD hS 0 rfl rfl 4 (by decide) (ht _ m_98) (fun _ h9 => h9) rfl hin rfl (by decide +kernel) rfl rfl (Nat.le_of_ble_eq_true rfl) d_Corrections_init_41 (fun H locs hP hD hS => ?_)
  have hP : va_P G.1 classes ([(h0, .inr (6, [.ref q_1, .ref q_2, .ref q_3, .ref q_4, .ref q_5, .int 0])), (q_1, .inl (G.2 0, 20, .inl ((fun _ => 0)))), (q_2, .inl (G.2 0, 20, .inl ((fun _ => 0)))), (q_3, .inl (G.2 1, 20, .inr (.inl ((fun _ => 0))))), (q_4, .inl (G.2 1, 20, .inr (.inl ((fun _ => 0))))), (q_5, .inl (G.2 1, 20, .inr (.inl ((fun _ => 0)))))]) H := hP
  have hD : va_D A ([(h0, .inr (6, [.ref q_1, .ref q_2, .ref q_3, .ref q_4, .ref q_5, .int 0])), (q_1, .inl (G.2 0, 20, .inl ((fun _ => 0)))), (q_2, .inl (G.2 0, 20, .inl ((fun _ => 0)))), (q_3, .inl (G.2 1, 20, .inr (.inl ((fun _ => 0))))), (q_4, .inl (G.2 1, 20, .inr (.inl ((fun _ => 0))))), (q_5, .inl (G.2 1, 20, .inr (.inl ((fun _ => 0)))))]) := hD
  exact W.vret hx hb hr (fun t ht hW => ⟨⟨(fun j => ([q_1, q_2, q_3, q_4, q_5] : List Nat).getD j 0), rfl, trivial, by show va_P _ _ _ t.heap ∧ _; rw [ht]; exact ⟨hP, hD⟩⟩, hS.F ht⟩) hS.2.2 d_Corrections_init_44
set_option maxHeartbeats 4000000 in
set_option maxRecDepth 100000 in
theorem c_DeviceSets_init (l : Launch) (G : sy_G) (h0 : Nat) (N9 : Nat) : Met l y_DeviceSets_init (sy_w y_DeviceSets_init b_DeviceSets_init 1 none) { frames := 2, cells := 16, slots := 544, locals := 44 } (va_Pc [.ref h0] (fun U => sy_KP G (fun H => va_P G.1 classes ([(h0, .inr (0, [.null, .null, .null, .null, .int 0, .int 0, .int 0]))]) H ∧ va_D (fun _ => True) ([(h0, .inr (0, [.null, .null, .null, .null, .int 0, .int 0, .int 0]))]) ∧ H.size = N9) U ∧ va_AO R_Device U ∧ va_AO R_ToldSet U)) (va_Qv (S := Nat → Nat) (fun u => u 0 = h0) (fun u t => va_P G.1 classes (cl_x G.2 u c_0) t.heap ∧ va_D (va_A ([(h0, .inr (0, [.null, .null, .null, .null, .int 0, .int 0, .int 0]))]) N9) (cl_x G.2 u c_0)) (va_A ([(h0, .inr (0, [.null, .null, .null, .null, .int 0, .int 0, .int 0]))]) N9)) 16 544 (va_A ([(h0, .inr (0, [.null, .null, .null, .null, .int 0, .int 0, .int 0]))]) N9) := by
  refine Met.ofW (cc := b_DeviceSets_init) (maxL := 1) (ret := none) (by decide) rfl ?_
  intro p e s m args below meth c s₁ B hml hv
  obtain ⟨rfl, ⟨⟨hP, hD0, hN9⟩, hK⟩, hAO3, hAO4⟩ := hv
  subst hN9
  have hx := B.exec
  have hb := B.bytes
  have hr := B.returns
  have hts := atoms_spec (ws := sy_w y_DeviceSets_init b_DeviceSets_init 1 none) B.pre
  have ht : ∀ wd ∈ sy_T, wd.before ([.ref h0] : List Value).toArray s = true := fun wd h => hts wd (List.mem_cons_of_mem _ h)
  have hown : s.vm.findClass R_DeviceSets = some m.cls := findClass_of_methodNamed B.named
  have hlocks := B.notSynchronized
  have hin : meth.name = "<init>" := (name_of_methodNamed B.named B.method).1
  have hD := va_D.self (sz := s.heap.size) hD0
  have hA : ∀ q, s.heap.size ≤ q → va_A ([(h0, .inr (0, [.null, .null, .null, .null, .int 0, .int 0, .int 0]))]) s.heap.size q := fun q h => Or.inr h
  generalize hAe : va_A ([(h0, .inr (0, [.null, .null, .null, .null, .int 0, .int 0, .int 0]))]) s.heap.size = A at hD hA ⊢
  have hS : va_S A s.heap s.heap [] := va_S.rf
  have hl := lv_entry ([.ref h0]) (n := 1) (Nat.le_of_ble_eq_true rfl)
  rw [lg_entry_eq]
  generalize (lg_sl ([.ref h0]) ++ List.replicate (1 - (lg_sl ([.ref h0])).length) Slot.unset).toArray = ls at hl ⊢
  have hl : lv_has ls 1 [(0, .ref h0)] := hl
  refine lv_aload_n hx hb d_DeviceSets_init_0 rfl (lv_at hl 0 rfl) ?_
  refine W.objInit hx hb hown (ht _ m_45) (ht _ m_46) (ht _ m_47) rfl (hl.1.trans hml.symm) rfl d_DeviceSets_init_1 (Nat.le_of_ble_eq_true rfl) (Nat.le_of_ble_eq_true rfl) ?_
  refine lv_aload_n hx hb d_DeviceSets_init_4 rfl (lv_at hl 0 rfl) ?_
  refine lv_iconst (v := 4) hx hb d_DeviceSets_init_5 (by decide) ?_
  refine sy_newq (C := R_Device) hx hb hown (ht _ m_48) hAO3 hK.1 3 rfl hP hD hS hA (n := 4) (N' := 4) (by decide) (by decide) (by decide) (Nat.le_of_ble_eq_true rfl) (Nat.le_of_ble_eq_true rfl) d_DeviceSets_init_6 (fun q_1 H hP hD hS => ?_)
  have hP : va_P G.1 classes ([(h0, .inr (0, [.null, .null, .null, .null, .int 0, .int 0, .int 0])), (q_1, .inl (G.2 3, 4, .inr (.inr (.inr (.inr (fun _ => none))))))]) H := hP
  have hD : va_D A ([(h0, .inr (0, [.null, .null, .null, .null, .int 0, .int 0, .int 0])), (q_1, .inl (G.2 3, 4, .inr (.inr (.inr (.inr (fun _ => none))))))]) := hD
  refine va_putF (D := G.1) (ci := 0) (v := .ref q_1) (ty := (.array (.object "DeviceSets$Device"))) (C := R_DeviceSets) (T := F_DeviceSets) (N := 7) hx hb ht i_DeviceSets t_DeviceSets t_DeviceSets_ok n_DeviceSets hown hK.1 hP hD hS 0 rfl rfl 0 (by decide) (ht _ m_113) (fun _ h9 => h9) rfl hin rfl (by decide +kernel) rfl rfl (Nat.le_of_ble_eq_true rfl) d_DeviceSets_init_9 (fun H locs hP hD hS => ?_)
  have hP : va_P G.1 classes ([(h0, .inr (0, [.ref q_1, .null, .null, .null, .int 0, .int 0, .int 0])), (q_1, .inl (G.2 3, 4, .inr (.inr (.inr (.inr (fun _ => none))))))]) H := hP
  have hD : va_D A ([(h0, .inr (0, [.ref q_1, .null, .null, .null, .int 0, .int 0, .int 0])), (q_1, .inl (G.2 3, 4, .inr (.inr (.inr (.inr (fun _ => none))))))]) := hD
  refine lv_aload_n hx hb d_DeviceSets_init_12 rfl (lv_at hl 0 rfl) ?_
  refine lv_bipush (v := 6) hx hb d_DeviceSets_init_13 (by decide) ?_
  refine sy_newq (C := R_ToldSet) hx hb hown (ht _ m_50) hAO4 hK.1 4 rfl hP hD hS hA (n := 6) (N' := 6) (by decide) (by decide) (by decide) (Nat.le_of_ble_eq_true rfl) (Nat.le_of_ble_eq_true rfl) d_DeviceSets_init_15 (fun q_2 H hP hD hS => ?_)
  have hP : va_P G.1 classes ([(h0, .inr (0, [.ref q_1, .null, .null, .null, .int 0, .int 0, .int 0])), (q_1, .inl (G.2 3, 4, .inr (.inr (.inr (.inr (fun _ => none)))))), (q_2, .inl (G.2 4, 6, .inr (.inr (.inr (.inr (fun _ => none))))))]) H := hP
  have hD : va_D A ([(h0, .inr (0, [.ref q_1, .null, .null, .null, .int 0, .int 0, .int 0])), (q_1, .inl (G.2 3, 4, .inr (.inr (.inr (.inr (fun _ => none)))))), (q_2, .inl (G.2 4, 6, .inr (.inr (.inr (.inr (fun _ => none))))))]) := hD
  refine va_putF (D := G.1) (ci := 0) (v := .ref q_2) (ty := (.array (.object "DeviceSets$ToldSet"))) (C := R_DeviceSets) (T := F_DeviceSets) (N := 7) hx hb ht i_DeviceSets t_DeviceSets t_DeviceSets_ok n_DeviceSets hown hK.1 hP hD hS 0 rfl rfl 1 (by decide) (ht _ m_114) (fun _ h9 => h9) rfl hin rfl (by decide +kernel) rfl rfl (Nat.le_of_ble_eq_true rfl) d_DeviceSets_init_18 (fun H locs hP hD hS => ?_)
  have hP : va_P G.1 classes ([(h0, .inr (0, [.ref q_1, .ref q_2, .null, .null, .int 0, .int 0, .int 0])), (q_1, .inl (G.2 3, 4, .inr (.inr (.inr (.inr (fun _ => none)))))), (q_2, .inl (G.2 4, 6, .inr (.inr (.inr (.inr (fun _ => none))))))]) H := hP
  have hD : va_D A ([(h0, .inr (0, [.ref q_1, .ref q_2, .null, .null, .int 0, .int 0, .int 0])), (q_1, .inl (G.2 3, 4, .inr (.inr (.inr (.inr (fun _ => none)))))), (q_2, .inl (G.2 4, 6, .inr (.inr (.inr (.inr (fun _ => none))))))]) := hD
  refine lv_aload_n hx hb d_DeviceSets_init_21 rfl (lv_at hl 0 rfl) ?_
  refine va_new (D := G.1) (ci := 5) (C := R_Tellings) (T := F_Tellings) (N := 8) hx hb ht i_Tellings t_Tellings t_Tellings_ok hown (ht _ m_52) (ht _ m_53) (ht _ m_31) hK.1 hP hD hS hA rfl (fs := [.null, .null, .null, .null, .null, .null, .null, .int 0]) nd_Tellings (Nat.le_of_ble_eq_true rfl) (Nat.le_of_ble_eq_true rfl) d_DeviceSets_init_22 (fun q_3 H hP hD hS => ?_)
  have hP : va_P G.1 classes ([(h0, .inr (0, [.ref q_1, .ref q_2, .null, .null, .int 0, .int 0, .int 0])), (q_1, .inl (G.2 3, 4, .inr (.inr (.inr (.inr (fun _ => none)))))), (q_2, .inl (G.2 4, 6, .inr (.inr (.inr (.inr (fun _ => none)))))), (q_3, .inr (5, [.null, .null, .null, .null, .null, .null, .null, .int 0]))]) H := hP
  have hD : va_D A ([(h0, .inr (0, [.ref q_1, .ref q_2, .null, .null, .int 0, .int 0, .int 0])), (q_1, .inl (G.2 3, 4, .inr (.inr (.inr (.inr (fun _ => none)))))), (q_2, .inl (G.2 4, 6, .inr (.inr (.inr (.inr (fun _ => none)))))), (q_3, .inr (5, [.null, .null, .null, .null, .null, .null, .null, .int 0]))]) := hD
  refine lv_dup hx hb d_DeviceSets_init_25 rfl ?_
  have hPc : va_P G.1 classes ([(q_3, .inr (5, [.null, .null, .null, .null, .null, .null, .null, .int 0]))]) H := hP.sub [3] rfl
  have hDc : va_D A ([(q_3, .inr (5, [.null, .null, .null, .null, .null, .null, .null, .int 0]))]) := hD.sub [3] (by decide) rfl
  have hF9 := va_free (wc := [(q_3, .inr (5, [.null, .null, .null, .null, .null, .null, .null, .int 0]))]) hD hS hA [3] rfl
  refine va_callv (sy_runIN (As := []) (rest := [.ref q_3, .ref h0]) (b := q_3) ⟨hx, hb, hml, hown, ht⟩ cl_DeviceSets_23 (c_Tellings_init l G q_3 H.size) hK ⟨hPc, sy_any hDc, rfl⟩ rfl rfl nm_Tellings_init rfl rfl ⟨Nat.le_of_ble_eq_true rfl, Nat.le_of_ble_eq_true rfl⟩ hl.1 (Nat.le_of_ble_eq_true rfl) d_DeviceSets_init_26 ⟨Nat.le_of_ble_eq_true rfl, Nat.le_of_ble_eq_true rfl⟩) hS (fun q _ h => hF9 q h) (fun q h => hF9 q h) (fun u_4 t9 H9 locs ht9 hvm9 hw9 hB9 hz9 hk9 hS => ?_)
  rw [ht9] at hB9
  obtain ⟨hP, hD⟩ := va_join (wr := [(h0, .inr (0, [.ref q_1, .ref q_2, .null, .null, .int 0, .int 0, .int 0])), (q_1, .inl (G.2 3, 4, .inr (.inr (.inr (.inr (fun _ => none)))))), (q_2, .inl (G.2 4, 6, .inr (.inr (.inr (.inr (fun _ => none))))))]) hP hD [3] [0, 1, 2] rfl rfl rfl (by decide) hk9 hF9 hB9.1 hB9.2
  generalize H9 = H at hP hS ⊢
  have hP : va_P G.1 classes ([(h0, .inr (0, [.ref q_1, .ref q_2, .null, .null, .int 0, .int 0, .int 0])), (q_1, .inl (G.2 3, 4, .inr (.inr (.inr (.inr (fun _ => none)))))), (q_2, .inl (G.2 4, 6, .inr (.inr (.inr (.inr (fun _ => none)))))), (q_3, .inr (5, [.ref (u_4 0), .ref (u_4 1), .ref (u_4 2), .ref (u_4 3), .ref (u_4 4), .ref (u_4 5), .ref (u_4 6), .int (nI 0)])), (u_4 0, .inl (G.2 0, 60, .inl ((fun _ => 0)))), (u_4 1, .inl (G.2 0, 60, .inl ((fun _ => 0)))), (u_4 2, .inl (G.2 0, 60, .inl ((fun _ => 0)))), (u_4 3, .inl (G.2 0, 60, .inl ((fun _ => 0)))), (u_4 4, .inl (G.2 1, 60, .inr (.inl ((fun _ => 0))))), (u_4 5, .inl (G.2 1, 60, .inr (.inl ((fun _ => 0))))), (u_4 6, .inl (G.2 1, 60, .inr (.inl ((fun _ => 0)))))]) H := hP
  have hD : va_D A ([(h0, .inr (0, [.ref q_1, .ref q_2, .null, .null, .int 0, .int 0, .int 0])), (q_1, .inl (G.2 3, 4, .inr (.inr (.inr (.inr (fun _ => none)))))), (q_2, .inl (G.2 4, 6, .inr (.inr (.inr (.inr (fun _ => none)))))), (q_3, .inr (5, [.ref (u_4 0), .ref (u_4 1), .ref (u_4 2), .ref (u_4 3), .ref (u_4 4), .ref (u_4 5), .ref (u_4 6), .int (nI 0)])), (u_4 0, .inl (G.2 0, 60, .inl ((fun _ => 0)))), (u_4 1, .inl (G.2 0, 60, .inl ((fun _ => 0)))), (u_4 2, .inl (G.2 0, 60, .inl ((fun _ => 0)))), (u_4 3, .inl (G.2 0, 60, .inl ((fun _ => 0)))), (u_4 4, .inl (G.2 1, 60, .inr (.inl ((fun _ => 0))))), (u_4 5, .inl (G.2 1, 60, .inr (.inl ((fun _ => 0))))), (u_4 6, .inl (G.2 1, 60, .inr (.inl ((fun _ => 0)))))]) := hD
  refine va_putF (D := G.1) (ci := 0) (v := .ref q_3) (ty := (.object "DeviceSets$Tellings")) (C := R_DeviceSets) (T := F_DeviceSets) (N := 7) hx hb ht i_DeviceSets t_DeviceSets t_DeviceSets_ok n_DeviceSets hown hK.1 hP hD hS 0 rfl rfl 2 (by decide) (ht _ m_115) (fun _ h9 => h9) rfl hin rfl (by decide +kernel) rfl rfl (Nat.le_of_ble_eq_true rfl) d_DeviceSets_init_29 (fun H locs hP hD hS => ?_)
  have hP : va_P G.1 classes ([(h0, .inr (0, [.ref q_1, .ref q_2, .ref q_3, .null, .int 0, .int 0, .int 0])), (q_1, .inl (G.2 3, 4, .inr (.inr (.inr (.inr (fun _ => none)))))), (q_2, .inl (G.2 4, 6, .inr (.inr (.inr (.inr (fun _ => none)))))), (q_3, .inr (5, [.ref (u_4 0), .ref (u_4 1), .ref (u_4 2), .ref (u_4 3), .ref (u_4 4), .ref (u_4 5), .ref (u_4 6), .int (nI 0)])), (u_4 0, .inl (G.2 0, 60, .inl ((fun _ => 0)))), (u_4 1, .inl (G.2 0, 60, .inl ((fun _ => 0)))), (u_4 2, .inl (G.2 0, 60, .inl ((fun _ => 0)))), (u_4 3, .inl (G.2 0, 60, .inl ((fun _ => 0)))), (u_4 4, .inl (G.2 1, 60, .inr (.inl ((fun _ => 0))))), (u_4 5, .inl (G.2 1, 60, .inr (.inl ((fun _ => 0))))), (u_4 6, .inl (G.2 1, 60, .inr (.inl ((fun _ => 0)))))]) H := hP
  have hD : va_D A ([(h0, .inr (0, [.ref q_1, .ref q_2, .ref q_3, .null, .int 0, .int 0, .int 0])), (q_1, .inl (G.2 3, 4, .inr (.inr (.inr (.inr (fun _ => none)))))), (q_2, .inl (G.2 4, 6, .inr (.inr (.inr (.inr (fun _ => none)))))), (q_3, .inr (5, [.ref (u_4 0), .ref (u_4 1), .ref (u_4 2), .ref (u_4 3), .ref (u_4 4), .ref (u_4 5), .ref (u_4 6), .int (nI 0)])), (u_4 0, .inl (G.2 0, 60, .inl ((fun _ => 0)))), (u_4 1, .inl (G.2 0, 60, .inl ((fun _ => 0)))), (u_4 2, .inl (G.2 0, 60, .inl ((fun _ => 0)))), (u_4 3, .inl (G.2 0, 60, .inl ((fun _ => 0)))), (u_4 4, .inl (G.2 1, 60, .inr (.inl ((fun _ => 0))))), (u_4 5, .inl (G.2 1, 60, .inr (.inl ((fun _ => 0))))), (u_4 6, .inl (G.2 1, 60, .inr (.inl ((fun _ => 0)))))]) := hD
  refine lv_aload_n hx hb d_DeviceSets_init_32 rfl (lv_at hl 0 rfl) ?_
  refine va_new (D := G.1) (ci := 6) (C := R_Corrections) (T := F_Corrections) (N := 6) hx hb ht i_Corrections t_Corrections t_Corrections_ok hown (ht _ m_87) (ht _ m_88) (ht _ m_32) hK.1 hP hD hS hA rfl (fs := [.null, .null, .null, .null, .null, .int 0]) nd_Corrections (Nat.le_of_ble_eq_true rfl) (Nat.le_of_ble_eq_true rfl) d_DeviceSets_init_33 (fun q_5 H hP hD hS => ?_)
  have hP : va_P G.1 classes ([(h0, .inr (0, [.ref q_1, .ref q_2, .ref q_3, .null, .int 0, .int 0, .int 0])), (q_1, .inl (G.2 3, 4, .inr (.inr (.inr (.inr (fun _ => none)))))), (q_2, .inl (G.2 4, 6, .inr (.inr (.inr (.inr (fun _ => none)))))), (q_3, .inr (5, [.ref (u_4 0), .ref (u_4 1), .ref (u_4 2), .ref (u_4 3), .ref (u_4 4), .ref (u_4 5), .ref (u_4 6), .int (nI 0)])), (u_4 0, .inl (G.2 0, 60, .inl ((fun _ => 0)))), (u_4 1, .inl (G.2 0, 60, .inl ((fun _ => 0)))), (u_4 2, .inl (G.2 0, 60, .inl ((fun _ => 0)))), (u_4 3, .inl (G.2 0, 60, .inl ((fun _ => 0)))), (u_4 4, .inl (G.2 1, 60, .inr (.inl ((fun _ => 0))))), (u_4 5, .inl (G.2 1, 60, .inr (.inl ((fun _ => 0))))), (u_4 6, .inl (G.2 1, 60, .inr (.inl ((fun _ => 0))))), (q_5, .inr (6, [.null, .null, .null, .null, .null, .int 0]))]) H := hP
  have hD : va_D A ([(h0, .inr (0, [.ref q_1, .ref q_2, .ref q_3, .null, .int 0, .int 0, .int 0])), (q_1, .inl (G.2 3, 4, .inr (.inr (.inr (.inr (fun _ => none)))))), (q_2, .inl (G.2 4, 6, .inr (.inr (.inr (.inr (fun _ => none)))))), (q_3, .inr (5, [.ref (u_4 0), .ref (u_4 1), .ref (u_4 2), .ref (u_4 3), .ref (u_4 4), .ref (u_4 5), .ref (u_4 6), .int (nI 0)])), (u_4 0, .inl (G.2 0, 60, .inl ((fun _ => 0)))), (u_4 1, .inl (G.2 0, 60, .inl ((fun _ => 0)))), (u_4 2, .inl (G.2 0, 60, .inl ((fun _ => 0)))), (u_4 3, .inl (G.2 0, 60, .inl ((fun _ => 0)))), (u_4 4, .inl (G.2 1, 60, .inr (.inl ((fun _ => 0))))), (u_4 5, .inl (G.2 1, 60, .inr (.inl ((fun _ => 0))))), (u_4 6, .inl (G.2 1, 60, .inr (.inl ((fun _ => 0))))), (q_5, .inr (6, [.null, .null, .null, .null, .null, .int 0]))]) := hD
  refine lv_dup hx hb d_DeviceSets_init_36 rfl ?_
  have hPc : va_P G.1 classes ([(q_5, .inr (6, [.null, .null, .null, .null, .null, .int 0]))]) H := hP.sub [11] rfl
  have hDc : va_D A ([(q_5, .inr (6, [.null, .null, .null, .null, .null, .int 0]))]) := hD.sub [11] (by decide) rfl
  have hF9 := va_free (wc := [(q_5, .inr (6, [.null, .null, .null, .null, .null, .int 0]))]) hD hS hA [11] rfl
  refine va_callv (sy_runIN (As := []) (rest := [.ref q_5, .ref h0]) (b := q_5) ⟨hx, hb, hml, hown, ht⟩ cl_DeviceSets_30 (c_Corrections_init l G q_5 H.size) hK ⟨hPc, sy_any hDc, rfl⟩ rfl rfl nm_Corrections_init rfl rfl ⟨Nat.le_of_ble_eq_true rfl, Nat.le_of_ble_eq_true rfl⟩ hl.1 (Nat.le_of_ble_eq_true rfl) d_DeviceSets_init_37 ⟨Nat.le_of_ble_eq_true rfl, Nat.le_of_ble_eq_true rfl⟩) hS (fun q _ h => hF9 q h) (fun q h => hF9 q h) (fun u_6 t9 H9 locs ht9 hvm9 hw9 hB9 hz9 hk9 hS => ?_)
  rw [ht9] at hB9
  obtain ⟨hP, hD⟩ := va_join (wr := [(h0, .inr (0, [.ref q_1, .ref q_2, .ref q_3, .null, .int 0, .int 0, .int 0])), (q_1, .inl (G.2 3, 4, .inr (.inr (.inr (.inr (fun _ => none)))))), (q_2, .inl (G.2 4, 6, .inr (.inr (.inr (.inr (fun _ => none)))))), (q_3, .inr (5, [.ref (u_4 0), .ref (u_4 1), .ref (u_4 2), .ref (u_4 3), .ref (u_4 4), .ref (u_4 5), .ref (u_4 6), .int (nI 0)])), (u_4 0, .inl (G.2 0, 60, .inl ((fun _ => 0)))), (u_4 1, .inl (G.2 0, 60, .inl ((fun _ => 0)))), (u_4 2, .inl (G.2 0, 60, .inl ((fun _ => 0)))), (u_4 3, .inl (G.2 0, 60, .inl ((fun _ => 0)))), (u_4 4, .inl (G.2 1, 60, .inr (.inl ((fun _ => 0))))), (u_4 5, .inl (G.2 1, 60, .inr (.inl ((fun _ => 0))))), (u_4 6, .inl (G.2 1, 60, .inr (.inl ((fun _ => 0)))))]) hP hD [11] [0, 1, 2, 3, 4, 5, 6, 7, 8, 9, 10] rfl rfl rfl (by decide) hk9 hF9 hB9.1 hB9.2
  generalize H9 = H at hP hS ⊢
  have hP : va_P G.1 classes ([(h0, .inr (0, [.ref q_1, .ref q_2, .ref q_3, .null, .int 0, .int 0, .int 0])), (q_1, .inl (G.2 3, 4, .inr (.inr (.inr (.inr (fun _ => none)))))), (q_2, .inl (G.2 4, 6, .inr (.inr (.inr (.inr (fun _ => none)))))), (q_3, .inr (5, [.ref (u_4 0), .ref (u_4 1), .ref (u_4 2), .ref (u_4 3), .ref (u_4 4), .ref (u_4 5), .ref (u_4 6), .int (nI 0)])), (u_4 0, .inl (G.2 0, 60, .inl ((fun _ => 0)))), (u_4 1, .inl (G.2 0, 60, .inl ((fun _ => 0)))), (u_4 2, .inl (G.2 0, 60, .inl ((fun _ => 0)))), (u_4 3, .inl (G.2 0, 60, .inl ((fun _ => 0)))), (u_4 4, .inl (G.2 1, 60, .inr (.inl ((fun _ => 0))))), (u_4 5, .inl (G.2 1, 60, .inr (.inl ((fun _ => 0))))), (u_4 6, .inl (G.2 1, 60, .inr (.inl ((fun _ => 0))))), (q_5, .inr (6, [.ref (u_6 0), .ref (u_6 1), .ref (u_6 2), .ref (u_6 3), .ref (u_6 4), .int (nI 0)])), (u_6 0, .inl (G.2 0, 20, .inl ((fun _ => 0)))), (u_6 1, .inl (G.2 0, 20, .inl ((fun _ => 0)))), (u_6 2, .inl (G.2 1, 20, .inr (.inl ((fun _ => 0))))), (u_6 3, .inl (G.2 1, 20, .inr (.inl ((fun _ => 0))))), (u_6 4, .inl (G.2 1, 20, .inr (.inl ((fun _ => 0)))))]) H := hP
  have hD : va_D A ([(h0, .inr (0, [.ref q_1, .ref q_2, .ref q_3, .null, .int 0, .int 0, .int 0])), (q_1, .inl (G.2 3, 4, .inr (.inr (.inr (.inr (fun _ => none)))))), (q_2, .inl (G.2 4, 6, .inr (.inr (.inr (.inr (fun _ => none)))))), (q_3, .inr (5, [.ref (u_4 0), .ref (u_4 1), .ref (u_4 2), .ref (u_4 3), .ref (u_4 4), .ref (u_4 5), .ref (u_4 6), .int (nI 0)])), (u_4 0, .inl (G.2 0, 60, .inl ((fun _ => 0)))), (u_4 1, .inl (G.2 0, 60, .inl ((fun _ => 0)))), (u_4 2, .inl (G.2 0, 60, .inl ((fun _ => 0)))), (u_4 3, .inl (G.2 0, 60, .inl ((fun _ => 0)))), (u_4 4, .inl (G.2 1, 60, .inr (.inl ((fun _ => 0))))), (u_4 5, .inl (G.2 1, 60, .inr (.inl ((fun _ => 0))))), (u_4 6, .inl (G.2 1, 60, .inr (.inl ((fun _ => 0))))), (q_5, .inr (6, [.ref (u_6 0), .ref (u_6 1), .ref (u_6 2), .ref (u_6 3), .ref (u_6 4), .int (nI 0)])), (u_6 0, .inl (G.2 0, 20, .inl ((fun _ => 0)))), (u_6 1, .inl (G.2 0, 20, .inl ((fun _ => 0)))), (u_6 2, .inl (G.2 1, 20, .inr (.inl ((fun _ => 0))))), (u_6 3, .inl (G.2 1, 20, .inr (.inl ((fun _ => 0))))), (u_6 4, .inl (G.2 1, 20, .inr (.inl ((fun _ => 0)))))]) := hD
  refine va_putF (D := G.1) (ci := 0) (v := .ref q_5) (ty := (.object "DeviceSets$Corrections")) (C := R_DeviceSets) (T := F_DeviceSets) (N := 7) hx hb ht i_DeviceSets t_DeviceSets t_DeviceSets_ok n_DeviceSets hown hK.1 hP hD hS 0 rfl rfl 3 (by decide) (ht _ m_116) (fun _ h9 => h9) rfl hin rfl (by decide +kernel) rfl rfl (Nat.le_of_ble_eq_true rfl) d_DeviceSets_init_40 (fun H locs hP hD hS => ?_)
  have hP : va_P G.1 classes ([(h0, .inr (0, [.ref q_1, .ref q_2, .ref q_3, .ref q_5, .int 0, .int 0, .int 0])), (q_1, .inl (G.2 3, 4, .inr (.inr (.inr (.inr (fun _ => none)))))), (q_2, .inl (G.2 4, 6, .inr (.inr (.inr (.inr (fun _ => none)))))), (q_3, .inr (5, [.ref (u_4 0), .ref (u_4 1), .ref (u_4 2), .ref (u_4 3), .ref (u_4 4), .ref (u_4 5), .ref (u_4 6), .int (nI 0)])), (u_4 0, .inl (G.2 0, 60, .inl ((fun _ => 0)))), (u_4 1, .inl (G.2 0, 60, .inl ((fun _ => 0)))), (u_4 2, .inl (G.2 0, 60, .inl ((fun _ => 0)))), (u_4 3, .inl (G.2 0, 60, .inl ((fun _ => 0)))), (u_4 4, .inl (G.2 1, 60, .inr (.inl ((fun _ => 0))))), (u_4 5, .inl (G.2 1, 60, .inr (.inl ((fun _ => 0))))), (u_4 6, .inl (G.2 1, 60, .inr (.inl ((fun _ => 0))))), (q_5, .inr (6, [.ref (u_6 0), .ref (u_6 1), .ref (u_6 2), .ref (u_6 3), .ref (u_6 4), .int (nI 0)])), (u_6 0, .inl (G.2 0, 20, .inl ((fun _ => 0)))), (u_6 1, .inl (G.2 0, 20, .inl ((fun _ => 0)))), (u_6 2, .inl (G.2 1, 20, .inr (.inl ((fun _ => 0))))), (u_6 3, .inl (G.2 1, 20, .inr (.inl ((fun _ => 0))))), (u_6 4, .inl (G.2 1, 20, .inr (.inl ((fun _ => 0)))))]) H := hP
  have hD : va_D A ([(h0, .inr (0, [.ref q_1, .ref q_2, .ref q_3, .ref q_5, .int 0, .int 0, .int 0])), (q_1, .inl (G.2 3, 4, .inr (.inr (.inr (.inr (fun _ => none)))))), (q_2, .inl (G.2 4, 6, .inr (.inr (.inr (.inr (fun _ => none)))))), (q_3, .inr (5, [.ref (u_4 0), .ref (u_4 1), .ref (u_4 2), .ref (u_4 3), .ref (u_4 4), .ref (u_4 5), .ref (u_4 6), .int (nI 0)])), (u_4 0, .inl (G.2 0, 60, .inl ((fun _ => 0)))), (u_4 1, .inl (G.2 0, 60, .inl ((fun _ => 0)))), (u_4 2, .inl (G.2 0, 60, .inl ((fun _ => 0)))), (u_4 3, .inl (G.2 0, 60, .inl ((fun _ => 0)))), (u_4 4, .inl (G.2 1, 60, .inr (.inl ((fun _ => 0))))), (u_4 5, .inl (G.2 1, 60, .inr (.inl ((fun _ => 0))))), (u_4 6, .inl (G.2 1, 60, .inr (.inl ((fun _ => 0))))), (q_5, .inr (6, [.ref (u_6 0), .ref (u_6 1), .ref (u_6 2), .ref (u_6 3), .ref (u_6 4), .int (nI 0)])), (u_6 0, .inl (G.2 0, 20, .inl ((fun _ => 0)))), (u_6 1, .inl (G.2 0, 20, .inl ((fun _ => 0)))), (u_6 2, .inl (G.2 1, 20, .inr (.inl ((fun _ => 0))))), (u_6 3, .inl (G.2 1, 20, .inr (.inl ((fun _ => 0))))), (u_6 4, .inl (G.2 1, 20, .inr (.inl ((fun _ => 0)))))]) := hD
  exact W.vret hx hb hr (fun t ht hW => ⟨⟨(fun j => ([h0, q_1, q_2, q_3, u_4 0, u_4 1, u_4 2, u_4 3, u_4 4, u_4 5, u_4 6, q_5, u_6 0, u_6 1, u_6 2, u_6 3, u_6 4] : List Nat).getD j 0), rfl, rfl, by show va_P _ _ _ t.heap ∧ _; rw [ht]; exact ⟨hP, hD⟩⟩, hS.F ht⟩) hS.2.2 d_DeviceSets_init_43
