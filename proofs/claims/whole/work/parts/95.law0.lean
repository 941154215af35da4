theorem mt_ao3 : Cond.arrayOver (.object R_Device) ∈ lw_tbl := List.mem_of_getElem? (i := 49) (by decide +kernel)
theorem mt_ao4 : Cond.arrayOver (.object R_ToldSet) ∈ lw_tbl := List.mem_of_getElem? (i := 51) (by decide +kernel)
set_option maxHeartbeats 4000000 in
set_option maxRecDepth 100000 in
theorem lw_K {s : State} {b : Nat} (hts : ∀ w ∈ lw_tbl, w.before #[Value.ref b] s = true) : ∃ G : sy_G, sy_K G s ∧ va_AO R_Device s ∧ va_AO R_ToldSet s := by
  have ht : ∀ wd ∈ sy_T, wd.before #[Value.ref b] s = true := fun wd h => hts wd (List.mem_filter.mp h).1
  obtain ⟨c0, iS0, hKn0⟩ := u_known (C := R_DeviceSets) (T := F_DeviceSets) (N := 7) (n := 7) ht i_DeviceSets (ht _ m_41)
  obtain ⟨c1, iS1, hKn1⟩ := u_known (C := R_Device) (T := F_Device) (N := 3) (n := 3) ht i_Device (ht _ m_139)
  obtain ⟨c2, iS2, hKn2⟩ := u_known (C := R_Clock) (T := F_Clock) (N := 3) (n := 3) ht i_Clock (ht _ m_145)
  obtain ⟨c3, iS3, hKn3⟩ := u_known (C := R_Held) (T := F_Held) (N := 4) (n := 4) ht i_Held (ht _ m_224)
  obtain ⟨c4, iS4, hKn4⟩ := u_known (C := R_ToldSet) (T := F_ToldSet) (N := 3) (n := 3) ht i_ToldSet (ht _ m_211)
  obtain ⟨c5, iS5, hKn5⟩ := u_known (C := R_Tellings) (T := F_Tellings) (N := 8) (n := 8) ht i_Tellings (ht _ m_53)
  obtain ⟨c6, iS6, hKn6⟩ := u_known (C := R_Corrections) (T := F_Corrections) (N := 6) (n := 6) ht i_Corrections (ht _ m_88)
  obtain ⟨c7, iS7, hKn7⟩ := u_known (C := R_Model) (T := F_Model) (N := 23) (n := 23) ht i_Model (ht _ m_500)
  obtain ⟨a0, k0, p0, f0, g0, q0⟩ := Cond.arrayClass_spec (ht _ m_85)
  obtain ⟨a1, k1, p1, f1, g1, q1⟩ := Cond.arrayClass_spec (ht _ m_86)
  obtain ⟨a2, k2, p2, f2, g2, q2⟩ := Cond.arrayClass_spec (ht _ m_575)
  obtain ⟨p3, a3, k3, e3, _, g3, q3, f3⟩ := Cond.arrayOver_spec (hts _ mt_ao3)
  obtain ⟨p4, a4, k4, e4, _, g4, q4, f4⟩ := Cond.arrayOver_spec (hts _ mt_ao4)
  refine ⟨((fun k => ([c0, c1, c2, c3, c4, c5, c6, c7] : List ClassId).getD k c0, fun k => ([iS0, iS1, iS2, iS3, iS4, iS5, iS6, iS7] : List (Nat → Nat)).getD k iS0), fun k => ([a0, a1, a2, a3, a4] : List ClassId).getD k a0), ⟨⟨?_, ?_⟩, fun w hw => ?_⟩, va_AO.of (hts _ mt_ao3), va_AO.of (hts _ mt_ao4)⟩
  · intro k q hq
    match k, hq with
    | 0, hq => cases hq; exact hKn0
    | 1, hq => cases hq; exact hKn1
    | 2, hq => cases hq; exact hKn2
    | 3, hq => cases hq; exact hKn3
    | 4, hq => cases hq; exact hKn4
    | 5, hq => cases hq; exact hKn5
    | 6, hq => cases hq; exact hKn6
    | 7, hq => cases hq; exact hKn7
    | k + 8, hq => simp [classes] at hq
  · intro k q hq
    match k, hq with
    | 0, hq => cases hq; exact ⟨fun n z => ⟨fun k h => (by cases h), k0, g0, p0, q0⟩, f0⟩
    | 1, hq => cases hq; exact ⟨fun n z => ⟨fun k h => (by cases h), k1, g1, p1, q1⟩, f1⟩
    | 2, hq => cases hq; exact ⟨fun n z => ⟨fun k h => (by cases h), k2, g2, p2, q2⟩, f2⟩
    | 3, hq => cases hq; exact ⟨fun n z => ⟨fun k h => (by cases h), k3, g3, p3, q3⟩, k3, p3, g3, q3, e3, f3⟩
    | 4, hq => cases hq; exact ⟨fun n z => ⟨fun k h => (by cases h), k4, g4, p4, q4⟩, k4, p4, g4, q4, e4, f4⟩
    | k + 5, hq => simp [sy_TY] at hq
  · have hg := (List.mem_filter.mp hw).2
    have h1 := hts w (List.mem_filter.mp hw).1
    cases w <;> first | exact va_Nw.of rfl h1 | exact absurd hg (by simp [sy_isN])
def LW (s : State) (G : sy_G) (g : Nat → Nat) (cx : cs) (ob : Nat) (ad : Nat → Nat) (sc : Nat → Nat) (mI : Nat → Nat → Int32) (mL : Nat → Nat → Int64) (mZ : Nat → Nat → Bool) (n : Nat) (H : Heap) (locs : List Loc) : Prop :=
  sys_P G g cx H ∧ sys_D (fun q => s.heap.size ≤ q) G g cx ∧ va_P G.1 classes (mw G.2 ob ad sc mI mL mZ) H ∧ va_D (fun q => s.heap.size ≤ q) (mw G.2 ob ad sc mI mL mZ) ∧ (∀ q, sys_A G g cx q → ¬ sy_A (mw G.2 ob ad sc mI mL mZ) q) ∧ va_S (fun q => s.heap.size ≤ q) s.heap H locs ∧ Rel cx sc mI mL mZ ∧ sc 4 ≤ n
def fc (c : cs) : Nat := 36 + 4 * c.nd + 3 * c.ns
def fs (c : cs) : Nat := 2884 + 26 * c.nd + 11 * c.ns
theorem sy_Aa {ws ws' : va_W} (e : ws'.map Prod.fst = ws.map Prod.fst) {q : Nat} (h : sy_A ws' q) : sy_A ws q := by
  obtain ⟨k, e9, hk⟩ := h
  have h1 : (ws'.map Prod.fst)[k]? = some q := by rw [List.getElem?_map, hk]; rfl
  rw [e, List.getElem?_map] at h1
  cases h2 : ws[k]? with
  | none => rw [h2] at h1; cases h1
  | some q2 =>
    rw [h2] at h1
    exact ⟨k, q2.2, by rw [h2]; exact congrArg some (Prod.ext (Option.some.inj h1) rfl)⟩
theorem lx_M {G : sy_G} {g : Nat → Nat} {cx : cs} {w : va_W} {H H9 : Heap} (hM : va_P G.1 classes w H) (hap : ∀ q, sys_A G g cx q → ¬ sy_A w q) (hk : ∀ q : Nat, q < H.size → ¬ sys_A G g cx q → H9[q]? = H[q]?) : va_P G.1 classes w H9 := hM.kept (fun k q h => hk q.1 (hM k q h).lt (fun h9 => hap q.1 h9 ⟨k, q.2, h⟩))
theorem lx_S {G : sy_G} {g : Nat → Nat} {cx : cs} {w : va_W} {H H9 : Heap} (hP : sys_P G g cx H) (hap : ∀ q, sys_A G g cx q → ¬ sy_A w q) (hk : ∀ q : Nat, q < H.size → ¬ sy_A w q → H9[q]? = H[q]?) : sys_P G g cx H9 := ss_kept hP (fun q h => hk q (by obtain ⟨i, e, hi⟩ := h; exact (hP i _ hi).lt) (hap q h))
section XA
variable {ca : Nat → ClassId} {g : Nat → Nat} {c : cs}
theorem xa_e {α : Type} {X : α × cs} {c' : cs} {a : α} (e : X = (a, c')) (h : ∀ i, (sy_cell ca g c' i).map Prod.fst = (sy_cell ca g c i).map Prod.fst) (i : sid) : (sy_cell ca g X.2 i).map Prod.fst = (sy_cell ca g c i).map Prod.fst := by
  subst e; exact h i
theorem xa_retain {d : Int32} {x : Int64} (i : sid) : (sy_cell ca g (x_retain c d x).2 i).map Prod.fst = (sy_cell ca g c i).map Prod.fst := by
  by_cases q : mo_ok c.ns d = true
  · exact xa_e (if_pos q) (fun i => ca_z i) i
  · exact xa_e (if_neg q) (fun _ => rfl) i
theorem xa_settle {d dv kd wh : Int32} (i : sid) : (sy_cell ca g (x_settle c d dv kd wh).2 i).map Prod.fst = (sy_cell ca g c i).map Prod.fst := by
  by_cases q : mo_ok c.ns d = true
  · exact xa_e (if_pos q) (fun i => ca_z i) i
  · exact xa_e (if_neg q) (fun _ => rfl) i
theorem xa_batch {d : Int32} (i : sid) : (sy_cell ca g (x_batch c d).2 i).map Prod.fst = (sy_cell ca g c i).map Prod.fst := by
  by_cases q : mo_ok c.ns d = true
  · exact xa_e (if_pos q) (fun i => (ca_b i).trans (ca_z i)) i
  · exact xa_e (if_neg q) (fun _ => rfl) i
theorem xa_reset {d : Int32} {x : Int64} (i : sid) : (sy_cell ca g (x_reset c d x).2 i).map Prod.fst = (sy_cell ca g c i).map Prod.fst := by
  by_cases q : mo_ok c.nd d = true
  · exact xa_e (if_pos q) (fun i => ca_d i) i
  · exact xa_e (if_neg q) (fun _ => rfl) i
theorem xa_mark {d : Int32} {x y : Int64} (i : sid) : (sy_cell ca g (x_mark c d x y).2 i).map Prod.fst = (sy_cell ca g c i).map Prod.fst := by
  by_cases q : mo_ok c.nd d = true
  · exact xa_e (if_pos q) (fun i => ca_d i) i
  · exact xa_e (if_neg q) (fun _ => rfl) i
theorem xa_tell {d : Int32} {x : Int64} {kd : Int32} {se v wh : Int64} (i : sid) : (sy_cell ca g (x_tell c d x kd se v wh).2 i).map Prod.fst = (sy_cell ca g c i).map Prod.fst := by
  by_cases q : mo_ok c.nd d = true
  · exact xa_e (if_pos q) (fun i => ca_t i) i
  · exact xa_e (if_neg q) (fun _ => rfl) i
theorem xa_join {d dv : Int32} (i : sid) : (sy_cell ca g (x_join c d dv).2 i).map Prod.fst = (sy_cell ca g c i).map Prod.fst := by
  by_cases q : mo_ok c.ns d = true ∧ mo_ok c.ns dv = true
  · exact xa_e (if_pos q) (fun i => ca_z i) i
  · exact xa_e (if_neg q) (fun _ => rfl) i
theorem xa_correct {d dv kd : Int32} {se v wh : Int64} (i : sid) : (sy_cell ca g (x_correct c d dv kd se v wh).2 i).map Prod.fst = (sy_cell ca g c i).map Prod.fst := by
  by_cases q : mo_ok c.ns d = true ∧ mo_ok c.nd dv = true
  · exact xa_e (if_pos q) (fun i => (ca_co i).trans (ca_z i)) i
  · exact xa_e (if_neg q) (fun _ => rfl) i
theorem xa_end {b : Int32} (i : sid) : (sy_cell ca g (x_end c b).2 i).map Prod.fst = (sy_cell ca g c i).map Prod.fst := by
  unfold x_end
  split
  · rfl
  · cases nn_ff (fun i => decide (c.so i = b)) c.ns with
    | none => rfl
    | some z => exact ca_z i
theorem xa_pl {sd : Int64} (k : Nat) (i : sid) : (sy_cell ca g (x_pl c sd k).2.2 i).map Prod.fst = (sy_cell ca g c i).map Prod.fst := by
  induction k with
  | zero => rfl
  | succ k ih =>
    rw [x_pl, x_pn]
    split
    · exact ih
    · exact (ca_z i).trans ih
theorem xa_play {sd : Int64} {tn : Int32} (i : sid) : (sy_cell ca g (x_play c sd tn).2 i).map Prod.fst = (sy_cell ca g c i).map Prod.fst := by
  by_cases q : c.ns = 0 ∨ tn < 0 ∨ ¬ tn ≤ 1000
  · exact xa_e (if_pos q) (fun _ => rfl) i
  · exact xa_e (if_neg q) (fun i => xa_pl _ i) i
end XA
theorem f_xpl {c : cs} {sd : Int64} (k : Nat) : (x_pl c sd k).2.2.nd = c.nd ∧ (x_pl c sd k).2.2.ns = c.ns := by
  induction k with
  | zero => exact ⟨rfl, rfl⟩
  | succ k ih =>
    rw [x_pl, x_pn]
    split
    · exact ih
    · exact ih
section XB
variable {sc : Nat → Nat} {mI : Nat → Nat → Int32} {mL : Nat → Nat → Int64} {mZ : Nat → Nat → Bool}
theorem q_device : (mo_device sc mI mL mZ).2.1 4 ≤ sc 4 + 1 := by unfold mo_device; split <;> exact Nat.le_succ _
theorem q_tell {d : Int32} {x : Int64} {kd : Int32} {se v wh : Int64} : (mo_tell sc mI mL mZ d x kd se v wh).2.1 4 ≤ sc 4 + 1 := by unfold mo_tell; split; exact Nat.le_succ _; split; exact Nat.le_succ _; split <;> exact Nat.le_succ _
theorem q_reset {d : Int32} {x : Int64} : (mo_reset sc mI mL mZ d x).2.1 4 ≤ sc 4 + 1 := by unfold mo_reset; split <;> exact Nat.le_succ _
theorem q_set {d : Int32} : (mo_set sc mI mL mZ d).2.1 4 ≤ sc 4 + 1 := by unfold mo_set; split <;> exact Nat.le_succ _
theorem q_join {d dv : Int32} : (mo_join sc mI mL mZ d dv).2.1 4 ≤ sc 4 + 1 := by unfold mo_join; split <;> exact Nat.le_succ _
theorem q_correct {d dv kd : Int32} {se v wh : Int64} : (mo_correct sc mI mL mZ d dv kd se v wh).2.1 4 ≤ sc 4 + 1 := by
  unfold mo_correct
  split
  · exact Nat.le_succ _
  · cases nn_ff (mo_ce2 mL dv kd se v wh) (sc 2) with
    | some i => exact Nat.le_succ _
    | none =>
      by_cases h : sc 2 = 20
      · exact Nat.le_trans (Nat.le_of_eq (congrArg (fun z : Bool × ms_S => z.2.1 4) (if_pos h))) (Nat.le_succ _)
      · exact Nat.le_trans (Nat.le_of_eq (congrArg (fun z : Bool × ms_S => z.2.1 4) (if_neg h))) (Nat.le_succ _)
theorem q_settle {d dv kd wh : Int32} : (mo_settle sc mI mL mZ d dv kd wh).2.1 4 ≤ sc 4 + 1 := by
  unfold mo_settle
  cases nn_ff (mo_tq sc mI mL mZ d wh (nn_fm (mo_tp sc mI mL mZ d dv kd) (mo_kb mI) (sc 1))) (sc 1) with
  | none => exact Nat.le_succ _
  | some i => exact Nat.le_succ _
theorem q_batch {d : Int32} : (mo_batch sc mI mL mZ d).2.1 4 ≤ sc 4 + 1 := by
  unfold mo_batch
  split
  · show va_up sc 4 (sc 4 + 1) 4 ≤ sc 4 + 1
    rw [va_up_s]; exact Nat.le_refl _
  · exact Nat.le_succ _
theorem q_endBatch {b : Int32} : (mo_end sc mI mL mZ b).2.1 4 ≤ sc 4 + 1 := by
  unfold mo_end
  cases nn_ff (mo_ep mI b) (sc 3) with
  | none => exact Nat.le_succ _
  | some i => exact Nat.le_succ _
theorem q_retain {d : Int32} {x : Int64} : (mo_retain sc mI mL mZ d x).2.1 4 ≤ sc 4 + 1 := by unfold mo_retain; split <;> exact Nat.le_succ _
theorem q_mark {d : Int32} {x y : Int64} : (mo_mark sc mI mL mZ d x y).2.1 4 ≤ sc 4 + 1 := by
  rcases Classical.em (mo_mok sc mI d x y) with h | h
  · rw [mo_mark_t h]; exact Nat.le_succ _
  · rw [mo_mark_f h]; exact Nat.le_succ _
theorem q_play {sd : Int64} {tn : Int32} : (mo_play sc mI mL mZ sd tn).2.1 4 ≤ sc 4 + 1 := by unfold mo_play; split <;> exact Nat.le_succ _
end XB
section XC
variable {c : cs}
theorem f_retain {d : Int32} {x : Int64} : fc (x_retain c d x).2 = fc c ∧ fs (x_retain c d x).2 = fs c := by unfold x_retain; split <;> exact ⟨rfl, rfl⟩
theorem f_settle {d dv kd wh : Int32} : fc (x_settle c d dv kd wh).2 = fc c ∧ fs (x_settle c d dv kd wh).2 = fs c := by unfold x_settle; split <;> exact ⟨rfl, rfl⟩
theorem f_batch {d : Int32} : fc (x_batch c d).2 = fc c ∧ fs (x_batch c d).2 = fs c := by unfold x_batch; split <;> exact ⟨rfl, rfl⟩
theorem f_reset {d : Int32} {x : Int64} : fc (x_reset c d x).2 = fc c ∧ fs (x_reset c d x).2 = fs c := by unfold x_reset; split <;> exact ⟨rfl, rfl⟩
theorem f_mark {d : Int32} {x y : Int64} : fc (x_mark c d x y).2 = fc c ∧ fs (x_mark c d x y).2 = fs c := by unfold x_mark; split <;> exact ⟨rfl, rfl⟩
theorem f_tell {d : Int32} {x : Int64} {kd : Int32} {se v wh : Int64} : fc (x_tell c d x kd se v wh).2 = fc c ∧ fs (x_tell c d x kd se v wh).2 = fs c := by unfold x_tell; split <;> exact ⟨rfl, rfl⟩
theorem f_join {d dv : Int32} : fc (x_join c d dv).2 = fc c ∧ fs (x_join c d dv).2 = fs c := by unfold x_join; split <;> exact ⟨rfl, rfl⟩
theorem f_correct {d dv kd : Int32} {se v wh : Int64} : fc (x_correct c d dv kd se v wh).2 = fc c ∧ fs (x_correct c d dv kd se v wh).2 = fs c := by unfold x_correct; split <;> exact ⟨rfl, rfl⟩
theorem f_end {b : Int32} : fc (x_end c b).2 = fc c ∧ fs (x_end c b).2 = fs c := by
  unfold x_end
  split
  · exact ⟨rfl, rfl⟩
  · cases nn_ff (fun i => decide (c.so i = b)) c.ns with
    | none => exact ⟨rfl, rfl⟩
    | some z => exact ⟨rfl, rfl⟩
theorem f_play {sd : Int64} {tn : Int32} : fc (x_play c sd tn).2 = fc c ∧ fs (x_play c sd tn).2 = fs c := by
  unfold x_play
  split
  · exact ⟨rfl, rfl⟩
  · have h := f_xpl (c := c) (sd := sd) tn.toNatClampNeg
    unfold fc fs
    show 36 + 4 * (x_pl c sd tn.toNatClampNeg).2.2.nd + 3 * (x_pl c sd tn.toNatClampNeg).2.2.ns = _ ∧ 2884 + 26 * (x_pl c sd tn.toNatClampNeg).2.2.nd + 11 * (x_pl c sd tn.toNatClampNeg).2.2.ns = _
    rw [h.1, h.2]
    exact ⟨rfl, rfl⟩
end XC
