def rp {α : Type} (a : α × cs) (b : α × ms_S) : Prop := a.1 = b.1 ∧ Rel a.2 b.2.1 b.2.2.1 b.2.2.2.1 b.2.2.2.2
theorem cs.z_id (c : cs) (z : Nat) : c.z z (c.so z) (c.sh z) (c.sv z) = c := by unfold cs.z; rw [va_up_id, va_up_id, va_up_id]; rfl
theorem cs.d_id (c : cs) (z : Nat) : c.d z (c.dl z) (c.df z) (c.dm z) (c.dk z) = c := by unfold cs.d; rw [va_up_id, va_up_id, va_up_id, va_up_id]; rfl
section WR
variable {c : cs} {sc : Nat → Nat} {mI : Nat → Nat → Int32} {mL : Nat → Nat → Int64} {mZ : Nat → Nat → Bool}
def x_join (c : cs) (d dv : Int32) : Int32 × cs := if mo_ok c.ns d = true ∧ mo_ok c.ns dv = true then ((xm_join c.nT c.fI c.fL (c.so d.toNatClampNeg) (c.sh d.toNatClampNeg) (c.sv d.toNatClampNeg) (c.sh dv.toNatClampNeg)).1, (x_bring c d.toNatClampNeg dv.toNatClampNeg).2) else (-1, c)
theorem e_join (R : Rel c sc mI mL mZ) (d dv : Int32) : rp (x_join c d dv) (mo_join sc mI mL mZ d dv) := by
  have b3 := R.b3
  rw [x_join, mo_join, R.s3]
  by_cases q : mo_ok c.ns d = true ∧ mo_ok c.ns dv = true
  · rw [if_pos q, if_pos q]
    obtain ⟨z, hz, rfl⟩ := mo_ix (by omega) q.1
    obtain ⟨y, hy, rfl⟩ := mo_ix (by omega) q.2
    rw [nI_clamp (by omega), nI_clamp (by omega)]
    obtain ⟨h1, h2, h3⟩ := e_bring R hz hy
    refine ⟨?_, by rw [show ((nI (mo_cn (mo_joinTo sc mI mL mZ z y).2.2.1 (mo_joinTo sc mI mL mZ z y).2.2.2.1 (mo_joinTo sc mI mL mZ z y).2.2.2.2 (sc 1) z), (mo_joinTo sc mI mL mZ z y).2) : Int32 × ms_S).2.1 = sc from h2]; exact h3⟩
    have hh := (h3.st z hz).eh
    have e := rl_count h3.b1 h3.tl hh
    rw [show (x_bring c z y).2.sh z = (to_bring (c.so z) (c.sh z) (c.sv z) (c.sh y)).2.1 from va_up_s] at e
    rw [R.s1]
    exact e
  · rw [if_neg q, if_neg q]
    exact ⟨rfl, R⟩
def x_ev (c : cs) : Option Nat → Bool × cs
  | none => (false, c)
  | some z => (true, c.z z (-1) (he_join (c.sh z) (c.sv z)) (he_zero (c.sv z)))
def x_end (c : cs) (b : Int32) : Bool × cs := if b < 0 then (false, c) else x_ev c (nn_ff (fun i => decide (c.so i = b)) c.ns)
theorem e_end (R : Rel c sc mI mL mZ) (b : Int32) : rp (x_end c b) (mo_end sc mI mL mZ b) := by
  have b3 := R.b3
  rw [x_end, mo_end, R.s3]
  by_cases q : b < 0
  · rw [if_pos q, nn_ff_no (fun i hi => by simp [mo_ep, q])]
    exact ⟨rfl, R⟩
  · have e : nn_ff (mo_ep mI b) c.ns = nn_ff (fun i => decide (c.so i = b)) c.ns := nn_ff_ext (fun i hi => by rw [mo_ep, (R.st i hi).eo]; simp [q])
    rw [if_neg q, e]
    cases hf : nn_ff (fun i => decide (c.so i = b)) c.ns with
    | none => exact ⟨rfl, R⟩
    | some z =>
      obtain ⟨hz, hb⟩ := nn_ff_lt hf
      rw [decide_eq_true_eq] at hb
      have qz := R.st z hz
      rcases qz.ew with ⟨w1, w2⟩ | ⟨w1, w2⟩
      · rw [← hb, w1] at q; exact absurd (by decide) q
      · refine ⟨rfl, ?_⟩
        show Rel (c.z z (-1) (he_join (c.sh z) (c.sv z)) (he_zero (c.sv z))) sc (va_up mI 14 (upd (mI 14) z (-1))) (mo_bring sc mI mL mZ z (6 + z)).2.2.2.1 (mo_bring sc mI mL mZ z (6 + z)).2.2.2.2
        refine rel_z R hz (fun k i h => ?_) (fun k i h => br_L k i (h.imp id And.left)) (fun r i h1 h2 hi => ?_) (fun r i h1 h2 hi => ?_) (fun r i h1 h2 hi => ?_) ⟨br_hr qz.eh w2, by rw [va_up_s, pk_us], Or.inl ⟨rfl, fun k hk => ?_⟩⟩
        · by_cases e : k = 14
          · subst e; rw [va_up_s, pk_un (h.resolve_left (fun q => q rfl))]
          · rw [va_up_n e]
        · rw [br_10 r i hi, if_neg h1]
        · rw [br_11 r i hi, if_neg h1]
        · rw [br_12 r i hi, if_neg h1]
        · rcases (show k = 0 ∨ k = 1 ∨ k = 2 ∨ k = 3 by omega) with e | e | e | e <;> subst e <;> rfl
theorem Rel.setb (R : Rel c sc mI mL mZ) (n : Nat) : Rel (c.b n) (va_up sc 4 n) mI mL mZ :=
  ⟨by rw [va_up_n (by omega)]; exact R.s0, by rw [va_up_n (by omega)]; exact R.s1, by rw [va_up_n (by omega)]; exact R.s2, by rw [va_up_n (by omega)]; exact R.s3, va_up_s, R.b0, R.b1, R.b2, R.b3, R.dv, R.d0, R.tl, R.tb, R.tu, R.co, R.st, R.z0⟩
def x_batch (c : cs) (d : Int32) : Int32 × cs := if mo_ok c.ns d = true then ((xm_batch (c.so d.toNatClampNeg) c.nb).1, (c.z d.toNatClampNeg (xm_batch (c.so d.toNatClampNeg) c.nb).2.1 (c.sh d.toNatClampNeg) (c.sv d.toNatClampNeg)).b (xm_batch (c.so d.toNatClampNeg) c.nb).2.2) else (-1, c)
theorem mo_clr_i {w z : Nat} {f : Nat → Bool} (k x : Nat) : mo_clr w z f k x = if w * z ≤ x ∧ x < w * z + k then false else f x := by
  induction k with
  | zero => rw [mo_clr, if_neg (by omega)]
  | succ k ih =>
    rw [mo_clr]
    by_cases e : x = w * z + k
    · subst e; rw [va_up_s, if_pos (by omega)]
    · rw [va_up_n e, ih]
      by_cases q : w * z ≤ x ∧ x < w * z + k
      · rw [if_pos q, if_pos (by omega)]
      · rw [if_neg q, if_neg (by omega)]
theorem e_batch (R : Rel c sc mI mL mZ) (hb : c.nb < 2147483647) (d : Int32) : rp (x_batch c d) (mo_batch sc mI mL mZ d) := by
  have b3 := R.b3
  rw [x_batch, mo_batch, R.s3, R.s4]
  by_cases q : mo_ok c.ns d = true
  · rw [if_pos q]
    obtain ⟨z, hz, rfl⟩ := mo_ix (by omega) q
    rw [nI_clamp (by omega)]
    have qz := R.st z hz
    rcases qz.ew with ⟨w1, w2⟩ | ⟨w1, w2⟩
    · rw [if_pos ⟨q, by rw [qz.eo, w1]; decide⟩]
      have e : xm_batch (c.so z) c.nb = (nI c.nb, nI c.nb, c.nb + 1) := by rw [xm_batch, if_pos w1]
      rw [e]
      refine ⟨rfl, ?_⟩
      refine Rel.setb ?_ _
      show Rel (c.z z (nI c.nb) (c.sh z) (c.sv z)) sc (va_up mI 14 (upd (mI 14) z (nI c.nb))) (va_up mL 13 (vp_updL (mL 13) (6 + z) 0)) (va_up (va_up (va_up mZ 10 (mo_clr 60 (6 + z) (mZ 10) 60)) 11 (mo_clr 60 (6 + z) (mZ 11) 60)) 12 (mo_clr 20 (6 + z) (mZ 12) 20))
      have C0 : ∀ x, (va_up (va_up (va_up mZ 10 (mo_clr 60 (6 + z) (mZ 10) 60)) 11 (mo_clr 60 (6 + z) (mZ 11) 60)) 12 (mo_clr 20 (6 + z) (mZ 12) 20)) 10 x = mo_clr 60 (6 + z) (mZ 10) 60 x := fun x => rfl
      have C1 : ∀ x, (va_up (va_up (va_up mZ 10 (mo_clr 60 (6 + z) (mZ 10) 60)) 11 (mo_clr 60 (6 + z) (mZ 11) 60)) 12 (mo_clr 20 (6 + z) (mZ 12) 20)) 11 x = mo_clr 60 (6 + z) (mZ 11) 60 x := fun x => rfl
      have C2 : ∀ x, (va_up (va_up (va_up mZ 10 (mo_clr 60 (6 + z) (mZ 10) 60)) 11 (mo_clr 60 (6 + z) (mZ 11) 60)) 12 (mo_clr 20 (6 + z) (mZ 12) 20)) 12 x = mo_clr 20 (6 + z) (mZ 12) 20 x := fun x => rfl
      refine rel_z R hz (fun k i h => ?_) (fun k i h => ?_) (fun r i h1 h2 hi => ?_) (fun r i h1 h2 hi => ?_) (fun r i h1 h2 hi => ?_) ⟨?_, ?_, Or.inr ⟨nI_pos' (by omega), ⟨fun i hi => ?_, fun i hi => ?_, fun i hi => ?_, ?_⟩⟩⟩
      · by_cases e : k = 14
        · subst e; rw [va_up_s, pk_un (h.resolve_left (fun q => q rfl))]
        · rw [va_up_n e]
      · by_cases e : k = 13
        · subst e; rw [va_up_s, pk_uLn (h.resolve_left (fun q => q rfl)).2]
        · rw [va_up_n e]
      · rw [C0, mo_clr_i, if_neg (by omega)]
      · rw [C1, mo_clr_i, if_neg (by omega)]
      · rw [C2, mo_clr_i, if_neg (by omega)]
      · exact qz.eh.mono (fun i hi => by rw [C0, mo_clr_i, if_neg (by omega)]) (fun i hi => by rw [C1, mo_clr_i, if_neg (by omega)]) (fun i hi => by rw [C2, mo_clr_i, if_neg (by omega)]) (by rw [va_up_s, pk_uLn (by omega)])
      · rw [va_up_s, pk_us]
      · rw [w2 0 (by omega), bs_in_0 i hi]
        by_cases q : i < 60
        · rw [C0, mo_clr_i, if_pos (by omega)]; simp
        · simp [q]
      · rw [w2 1 (by omega), bs_in_0 i hi]
        by_cases q : i < 20
        · rw [C2, mo_clr_i, if_pos (by omega)]; simp
        · simp [q]
      · rw [w2 2 (by omega), bs_in_0 i hi]
        by_cases q : i < 60
        · rw [C1, mo_clr_i, if_pos (by omega)]; simp
        · simp [q]
      · rw [w2 3 (by omega), va_up_s, pk_uLs]
    · have hne : ¬ c.so z = -1 := fun q => by rw [q] at w1; exact absurd w1 (by decide)
      rw [if_neg (fun w => by have := w.2; rw [qz.eo] at this; simp only [Int32.le_iff_toInt_le, Int32.lt_iff_toInt_lt] at this w1; omega)]
      have e : xm_batch (c.so z) c.nb = (-1, c.so z, c.nb) := by rw [xm_batch, if_neg hne]
      rw [e]
      refine ⟨rfl, ?_⟩
      show Rel ((c.z z (c.so z) (c.sh z) (c.sv z)).b c.nb) sc mI mL mZ
      rw [cs.z_id]
      exact R
  · rw [if_neg q, if_neg (fun w => q w.1)]
    exact ⟨rfl, R⟩
def x_retain (c : cs) (d : Int32) (x : Int64) : Int32 × cs := if mo_ok c.ns d = true then ((xm_retain c.nT c.fL (c.sh d.toNatClampNeg) x).1, c.z d.toNatClampNeg (c.so d.toNatClampNeg) (xm_retain c.nT c.fL (c.sh d.toNatClampNeg) x).2 (c.sv d.toNatClampNeg)) else (-1, c)
theorem lb_in {x : Int64} {p : Nat → Bool} {n : Nat} (hn : n ≤ 64) (h : ∀ i, i < 64 → bs_in x i = (decide (i < n) && p i)) : lb_pc x = nI (nn_ct p n) := by
  have : x = bs_m p n := bs_ext fun k hk => by rw [h k hk, bs_in_m hn hk]
  rw [this, lb_m hn]
theorem e_retain (R : Rel c sc mI mL mZ) (d : Int32) (x : Int64) : rp (x_retain c d x) (mo_retain sc mI mL mZ d x) := by
  have b3 := R.b3
  have b1 := R.b1
  rw [x_retain, mo_retain, R.s3, R.s1]
  by_cases q : mo_ok c.ns d = true
  · rw [if_pos q]
    obtain ⟨z, hz, rfl⟩ := mo_ix (by omega) q
    rw [nI_clamp (by omega)]
    have qz := R.st z hz
    have eq : mo_in x 0 2000000 = true ↔ ¬ (x < 0 ∨ ¬ x ≤ 2000000) := by
      simp only [mo_in, Bool.and_eq_true, decide_eq_true_eq, Int64.le_iff_toInt_le, Int64.lt_iff_toInt_lt]
      omega
    by_cases hx : x < 0 ∨ ¬ x ≤ 2000000
    · rw [if_neg (fun w => (eq.mp w.2) hx)]
      have e : xm_retain c.nT c.fL (c.sh z) x = (-1, c.sh z) := by rw [xm_retain, if_pos hx]
      rw [e]
      exact ⟨rfl, by show Rel (c.z z (c.so z) (c.sh z) (c.sv z)) _ _ _ _; rw [cs.z_id]; exact R⟩
    · rw [if_pos ⟨q, eq.mpr hx⟩]
      have e : xm_retain c.nT c.fL (c.sh z) x = (lb_pc (xl_live c.fL c.nT (c.sh z) &&& (xl_live c.fL c.nT (xm_bd (c.sh z) x) ^^^ (-1))), xm_bd (c.sh z) x) := by rw [xm_retain, if_neg hx]
      rw [e]
      have hb : xm_bd (c.sh z) x 3 = if mL 13 z < x then x else mL 13 z := by
        rw [xm_bd, va_up_s, qz.eh.b]
        by_cases w : x < mL 13 z
        · rw [if_pos w, if_neg (by simp only [Int64.lt_iff_toInt_lt] at w ⊢; omega)]
        · rw [if_neg w]
          by_cases w2 : mL 13 z < x
          · rw [if_pos w2]
          · rw [if_neg w2]; apply Int64.toInt_inj.mp; simp only [Int64.lt_iff_toInt_lt] at w w2; omega
      have hrel : Rel (c.z z (c.so z) (xm_bd (c.sh z) x) (c.sv z)) sc mI (va_up mL 13 (vp_updL (mL 13) z (if mL 13 z < x then x else mL 13 z))) mZ := by
        refine rel_z R hz (fun k i h => rfl) (fun k i h => ?_) (fun r i h1 h2 hi => rfl) (fun r i h1 h2 hi => rfl) (fun r i h1 h2 hi => rfl) ⟨⟨qz.eh.t, qz.eh.c, qz.eh.ch, ?_⟩, qz.eo, ?_⟩
        · by_cases e : k = 13
          · subst e; rw [va_up_s, pk_uLn (h.resolve_left (fun q => q rfl)).1]
          · rw [va_up_n e]
        · rw [va_up_s, pk_uLs]; exact hb
        · rcases qz.ew with w | ⟨w1, w2⟩
          · exact Or.inl w
          · exact Or.inr ⟨w1, w2.mono (fun i hi => rfl) (fun i hi => rfl) (fun i hi => rfl) (by rw [va_up_s, pk_uLn (by omega)])⟩
      refine ⟨?_, hrel⟩
      show lb_pc _ = nI (nn_ct (mo_rp mI mL mZ z x) c.nT)
      refine lb_in (by omega) (fun i hi => ?_)
      rw [bs_in_and hi, bs_in_not hi]
      by_cases h1 : i < c.nT
      · have hh := (hrel.st z hz).eh
        rw [show (c.z z (c.so z) (xm_bd (c.sh z) x) (c.sv z)).sh z = xm_bd (c.sh z) x from va_up_s] at hh
        rw [rl_live R.b1 R.tl qz.eh h1, rl_live (fI := c.fI) (fL := c.fL) (mI := mI) R.b1 hrel.tl hh h1]
        simp only [mo_rp, mo_he, h1, decide_true, Bool.true_and, va_up_s, pk_uLs]
        cases mZ 10 (60 * z + i) with
        | false => rfl
        | true =>
          simp only [Bool.true_and]
          by_cases w : mL 13 z ≤ (mI 6 i).toInt64
          · simp only [w, decide_true, Bool.true_and]
            by_cases w2 : mL 13 z < x
            · rw [if_pos w2]
              by_cases w3 : (mI 6 i).toInt64 < x
              · have : ¬ x ≤ (mI 6 i).toInt64 := by simp only [Int64.le_iff_toInt_le, Int64.lt_iff_toInt_lt] at w3 ⊢; omega
                simp [w3, this]
              · have : x ≤ (mI 6 i).toInt64 := by simp only [Int64.le_iff_toInt_le, Int64.lt_iff_toInt_lt] at w3 ⊢; omega
                simp [w3, this]
            · rw [if_neg w2]
              have : ¬ (mI 6 i).toInt64 < x := by simp only [Int64.le_iff_toInt_le, Int64.lt_iff_toInt_lt] at w w2 ⊢; omega
              simp [w, this]
          · simp [w]
      · rw [rl_liveo R.b1 (by omega) hi]; simp [h1]
  · rw [if_neg q, if_neg (fun w => q w.1)]
    exact ⟨rfl, R⟩
def x_settle (c : cs) (d dv kd wh : Int32) : Int32 × cs := if mo_ok c.ns d = true then ((xm_settle c.nT c.fI c.fL (c.sh d.toNatClampNeg) dv kd wh).1, c.z d.toNatClampNeg (c.so d.toNatClampNeg) (xm_settle c.nT c.fI c.fL (c.sh d.toNatClampNeg) dv kd wh).2 (c.sv d.toNatClampNeg)) else (-1, c)
theorem e_settle (R : Rel c sc mI mL mZ) (d dv kd wh : Int32) : rp (x_settle c d dv kd wh) (mo_settle sc mI mL mZ d dv kd wh) := by
  have b3 := R.b3
  have b1 := R.b1
  rw [x_settle, mo_settle, R.s1]
  by_cases q : mo_ok c.ns d = true
  · rw [if_pos q]
    obtain ⟨z, hz, rfl⟩ := mo_ix (by omega) q
    rw [nI_clamp (by omega)]
    have qz := R.st z hz
    have hh := qz.eh
    have B : ∀ i, i < c.nT → bs_in (bs_m (mo_cf mI mL mZ c.nT z) c.nT) i = mo_cf mI mL mZ c.nT z i := fun i hi => by rw [bs_in_m (by omega) (by omega)]; simp [hi]
    have e1 : tl_first c.fI c.fL c.nT (xl_conf c.fI c.fL c.nT (c.sh z) &&& tl_ofK c.fI c.nT dv kd) = nn_fm (mo_tp sc mI mL mZ (nI z) dv kd) (mo_kb mI) c.nT := by
      rw [rl_conf R.b1 R.tl hh, tl_first]
      have P : ∀ i, mo_tp sc mI mL mZ (nI z) dv kd i = (decide (mI 2 i = dv) && (decide (mI 5 i = kd) && mo_cf mI mL mZ c.nT z i)) := fun i => by
        rw [mo_tp, R.s3, R.s1, q, nI_clamp (by omega)]; rfl
      refine nn_fm_ext (fun i hi => ?_) (fun i j hi hj pi pj => ?_)
      · obtain ⟨a0, _, _, a3, _⟩ := R.tl i hi
        rw [bs_in_and (by omega), B i hi, tl_ofK, bs_in_m (by omega) (by omega), tl_pK, a0, a3, P]
        simp only [hi, decide_true, Bool.true_and]
        rw [Bool.and_comm, Bool.and_assoc]
      · rw [P] at pi pj
        simp only [Bool.and_eq_true] at pi pj
        by_cases e : i = j
        · subst e; rw [tl_bf_irr, mo_kb_irr]
        · exact rl_kb R.tl hi hj (rl_cfu R.tl hi hj e pi.2.2 pj.2.2)
    rw [xm_settle, e1]
    cases hf : nn_fm (mo_tp sc mI mL mZ (nI z) dv kd) (mo_kb mI) c.nT with
    | none =>
      rw [nn_ff_no (p := mo_tq sc mI mL mZ (nI z) wh none) (fun i hi => rfl)]
      exact ⟨rfl, by show Rel (c.z z (c.so z) (c.sh z) (c.sv z)) _ _ _ _; rw [cs.z_id]; exact R⟩
    | some t =>
      have htl := nn_fm_lt hf
      have L : ∀ j, j < c.nT → bs_in (xl_live c.fL c.nT (c.sh z)) j = mo_he mI mL mZ z j := fun j hj => rl_live R.b1 R.tl hh hj
      have K : ∀ j, j < c.nT → bs_in (tl_key c.fI c.nT t (xl_live c.fL c.nT (c.sh z))) j = (mo_he mI mL mZ z j && mo_sk mI j t) := fun j hj => by
        rw [rl_key R.b1 (by omega), L j hj, rl_sk R.tl hj htl]; simp [hj]
      have e2 : tl_ip c.fI c.fL c.nT (tl_key c.fI c.nT t (xl_live c.fL c.nT (c.sh z))) wh = nn_ff (mo_tq sc mI mL mZ (nI z) wh (some t)) c.nT := by
        rw [tl_ip]
        refine nn_ff_ext (fun i hi => ?_)
        rw [tl_pI, K i hi, mo_tq, R.s1, nI_clamp (by omega)]
        cases h1 : mo_he mI mL mZ z i with
        | false => simp
        | true =>
          cases h2 : mo_sk mI i t with
          | false => simp
          | true =>
            simp only [Bool.true_and]
            have : tl_cb c.fI c.fL c.nT i (tl_key c.fI c.nT t (xl_live c.fL c.nT (c.sh z))) = nn_ct (mo_tr mI mL mZ z t i) c.nT := by
              rw [tl_cb]
              refine nn_ct_ext (fun j hj => ?_)
              rw [tl_pC, mo_tr, K j hj]
              by_cases e : j = i
              · subst e; rw [tl_bf_irr]; simp
              · cases h3 : mo_sk mI j t with
                | false => simp
                | true =>
                  have s1 : tl_sk c.fI j i = true := tl_sk_t (by rw [rl_sk R.tl hj htl]; exact h3) (by rw [tl_sk_c, rl_sk R.tl hi htl]; exact h2)
                  rw [rl_bf R.tl hj hi s1]
                  simp [e]
            rw [this]
      simp only [xm_s1]
      rw [e2]
      cases hg : nn_ff (mo_tq sc mI mL mZ (nI z) wh (some t)) c.nT with
      | none => exact ⟨rfl, by show Rel (c.z z (c.so z) (c.sh z) (c.sv z)) _ _ _ _; rw [cs.z_id]; exact R⟩
      | some i =>
        have hi := (nn_ff_lt hg).1
        have hrel : Rel (c.z z (c.so z) (va_up (c.sh z) 2 (c.sh z 2 ||| bs_b i)) (c.sv z)) sc mI mL (va_up mZ 11 (va_up (mZ 11) (60 * z + i) true)) := by
          refine rel_z R hz (fun k i h => rfl) (fun k i h => rfl) (fun r j h1 h2 hj => rfl) (fun r j h1 h2 hj => ?_) (fun r j h1 h2 hj => rfl) ⟨⟨hh.t, hh.c, fun j hj => ?_, hh.b⟩, qz.eo, ?_⟩
          · rw [va_up_s, va_up_n (by omega)]
          · rw [va_up_s, bs_in_or hj, hh.ch j hj, bs_in_b (by omega) hj, va_up_s]
            by_cases e : j = i
            · subst e; rw [va_up_s]; simp [show j < 60 by omega]
            · rw [va_up_n (by omega)]; simp [e]
          · rcases qz.ew with w | ⟨w1, w2⟩
            · exact Or.inl w
            · exact Or.inr ⟨w1, w2.mono (fun j hj => rfl) (fun j hj => by rw [va_up_s, va_up_n (by omega)]) (fun j hj => rfl) rfl⟩
        have h2 := (hrel.st z hz).eh
        rw [show (c.z z (c.so z) (va_up (c.sh z) 2 (c.sh z 2 ||| bs_b i)) (c.sv z)).sh z = va_up (c.sh z) 2 (c.sh z 2 ||| bs_b i) from va_up_s] at h2
        have e3 := rl_count R.b1 hrel.tl h2
        show rp (lb_pc _, _) _
        simp only [mo_sv, R.s1]
        exact ⟨e3, hrel⟩
  · rw [if_neg q, nn_fm_no (fun i hi => by rw [mo_tp, R.s3, Bool.eq_false_iff.mpr q]; rfl), nn_ff_no (p := mo_tq sc mI mL mZ d wh none) (fun i hi => rfl)]
    exact ⟨rfl, R⟩
end WR
