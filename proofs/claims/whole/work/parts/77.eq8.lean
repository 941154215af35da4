theorem vp_updL_id {f : Nat → Int64} {k : Nat} {x : Int64} (h : f k = x) : vp_updL f k x = f := by
  funext j
  by_cases e : j = k
  · subst e; rw [pk_uLs, h]
  · rw [pk_uLn e]
section WR
variable {c : cs} {sc : Nat → Nat} {mI : Nat → Nat → Int32} {mL : Nat → Nat → Int64} {mZ : Nat → Nat → Bool}
def x_correct (c : cs) (d dv kd : Int32) (se v wh : Int64) : Bool × cs := if mo_ok c.ns d = true ∧ mo_ok c.nd dv = true then ((xm_correct c.nC c.gI c.gL (c.sh d.toNatClampNeg) dv kd se v wh).1, (c.z d.toNatClampNeg (c.so d.toNatClampNeg) (xm_correct c.nC c.gI c.gL (c.sh d.toNatClampNeg) dv kd se v wh).2.1 (c.sv d.toNatClampNeg)).co (xm_correct c.nC c.gI c.gL (c.sh d.toNatClampNeg) dv kd se v wh).2.2) else (false, c)
theorem rel_bit (R : Rel c sc mI mL mZ) {z i : Nat} (hz : z < c.ns) (hi : i < 20) : Rel (c.z z (c.so z) (va_up (c.sh z) 1 (c.sh z 1 ||| bs_b i)) (c.sv z)) sc mI mL (va_up mZ 12 (va_up (mZ 12) (20 * z + i) true)) := by
  have b3 := R.b3
  have qz := R.st z hz
  have hh := qz.eh
  refine rel_z R hz (fun k i h => rfl) (fun k i h => rfl) (fun r j h1 h2 hj => rfl) (fun r j h1 h2 hj => rfl) (fun r j h1 h2 hj => ?_) ⟨⟨hh.t, fun j hj => ?_, hh.ch, hh.b⟩, qz.eo, ?_⟩
  · rw [va_up_s, va_up_n (by omega)]
  · rw [va_up_s, bs_in_or hj, hh.c j hj, bs_in_b (by omega) hj, va_up_s]
    by_cases e : j = i
    · subst e; rw [va_up_s]; simp [hi]
    · by_cases w : j < 20
      · rw [va_up_n (by omega)]; simp [e]
      · simp [e, w]
  · rcases qz.ew with w | ⟨w1, w2⟩
    · exact Or.inl w
    · exact Or.inr ⟨w1, w2.mono (fun j hj => rfl) (fun j hj => rfl) (fun j hj => by rw [va_up_s, va_up_n (by omega)]) rfl⟩
theorem e_correct (R : Rel c sc mI mL mZ) (d dv kd : Int32) (se v wh : Int64) : rp (x_correct c d dv kd se v wh) (mo_correct sc mI mL mZ d dv kd se v wh) := by
  have b3 := R.b3
  have b2 := R.b2
  rw [x_correct, mo_correct, mo_cok, R.s0, R.s3, R.s2, mo_in_kind, mo_in_num, mo_in_num, mo_in_val]
  by_cases q : mo_ok c.ns d = true ∧ mo_ok c.nd dv = true
  · rw [if_pos q]
    obtain ⟨q1, q2⟩ := q
    rw [q1, q2]
    obtain ⟨z, hz, rfl⟩ := mo_ix (by omega) q1
    have hc : (nI z).toNatClampNeg = z := nI_clamp (by omega)
    rw [hc, Bool.true_and, Bool.true_and, show (ok_kind kd && (ok_num se && (ok_val v && ok_num wh))) = xm_cok kd se v wh from rfl]
    cases ht : xm_cok kd se v wh with
    | false =>
      rw [if_pos rfl]
      have e : xm_correct c.nC c.gI c.gL (c.sh z) dv kd se v wh = (false, c.sh z, c.nC, c.gI, c.gL) := by rw [xm_correct, if_neg (by rw [ht]; simp)]
      rw [e]
      exact ⟨rfl, by show Rel ((c.z z (c.so z) (c.sh z) (c.sv z)).co (c.nC, c.gI, c.gL)) _ _ _ _; rw [cs.z_id]; exact R⟩
    | true =>
      have hT : ¬ (true = false) := by simp
      rw [if_neg hT]
      have e : nn_ff (mo_ce2 mL dv kd se v wh) c.nC = nn_ff (co_eq c.gI c.gL dv kd se v wh) c.nC := nn_ff_ext (fun i hi => by
        have o := R.co i hi
        rw [mo_ce2, co_eq, co_for, o.c0, o.c1, o.c2, o.c3, o.c4]
        simp only [w_eq, Bool.and_assoc])
      rw [e, xm_correct, if_pos ht, co_add]
      cases hf : nn_ff (co_eq c.gI c.gL dv kd se v wh) c.nC with
      | some i =>
        obtain ⟨hi, hp⟩ := nn_ff_lt hf
        have o := R.co i hi
        have hq : mo_ce2 mL dv kd se v wh i = true := by
          rw [mo_ce2, o.c0, o.c1, o.c2, o.c3, o.c4]
          simp only [co_eq, co_for, Bool.and_eq_true, decide_eq_true_eq] at hp
          simp [hp.1.1.1, hp.1.1.2, hp.1.2, hp.2.1, hp.2.2]
        simp only [mo_ce2, Bool.and_eq_true, decide_eq_true_eq] at hq
        have ew : mo_cw mL dv kd se v wh i = mL 9 := by
          rw [mo_cw, vp_updL_id hq.1, vp_updL_id hq.2.1, vp_updL_id hq.2.2.1, vp_updL_id hq.2.2.2.1, vp_updL_id hq.2.2.2.2]
        refine ⟨rfl, ?_⟩
        show Rel ((c.z z (c.so z) (va_up (c.sh z) 1 (c.sh z 1 ||| bs_b i)) (c.sv z)).co (c.nC, c.gI, c.gL)) sc mI (va_up mL 9 (mo_cw mL dv kd se v wh i)) (va_up mZ 12 (va_up (mZ 12) (20 * z + i) true))
        rw [ew, va_up_id]
        exact rel_bit R hz (by omega)
      | none =>
        by_cases h20 : 20 ≤ c.nC
        · simp only [mo_cv, R.s2]
          rw [if_pos h20, if_pos (show c.nC = 20 by omega)]
          exact ⟨rfl, by show Rel ((c.z z (c.so z) (c.sh z) (c.sv z)).co (c.nC, c.gI, c.gL)) _ _ _ _; rw [cs.z_id]; exact R⟩
        · simp only [mo_cv, R.s2]
          rw [if_neg h20, if_neg (show ¬ c.nC = 20 by omega)]
          refine ⟨rfl, ?_⟩
          have R2 : Rel (c.co (co_put c.nC c.gI c.gL dv kd se v wh)) (va_up sc 2 (c.nC + 1)) mI (va_up mL 9 (mo_cw mL dv kd se v wh c.nC)) mZ := by
            refine ⟨R.s0, R.s1, by show va_up sc 2 (c.nC + 1) 2 = c.nC + 1; exact va_up_s, R.s3, R.s4, R.b0, R.b1, by show c.nC + 1 ≤ 20; omega, R.b3, fun d hd => (R.dv d hd).mono rfl rfl rfl (fun _ _ => rfl) (fun _ _ => rfl), R.d0, fun i hi => (R.tl i hi).mono (fun _ _ => rfl) rfl, R.tb, R.tu, fun i hi => ?_, fun j hj => ⟨(R.st j hj).eh.mono (fun _ _ => rfl) (fun _ _ => rfl) (fun _ _ => rfl) rfl, (R.st j hj).eo, (R.st j hj).ew.imp id (fun w => ⟨w.1, w.2.mono (fun _ _ => rfl) (fun _ _ => rfl) (fun _ _ => rfl) rfl⟩)⟩, fun j hj hj6 => ⟨(R.z0 j hj hj6).t, (R.z0 j hj hj6).ch, (R.z0 j hj hj6).c, (R.z0 j hj hj6).b, (R.z0 j hj hj6).o⟩⟩
            have hi : i < c.nC + 1 := hi
            have E : ∀ x, va_up mL 9 (mo_cw mL dv kd se v wh c.nC) 9 x = mo_cw mL dv kd se v wh c.nC x := fun x => rfl
            show rc_ok (va_up (va_up c.gI 0 (upd (c.gI 0) c.nC dv)) 1 (upd (c.gI 1) c.nC kd)) (va_up (va_up (va_up c.gL 0 (vp_updL (c.gL 0) c.nC se)) 1 (vp_updL (c.gL 1) c.nC v)) 2 (vp_updL (c.gL 2) c.nC wh)) _ i
            by_cases ei : i = c.nC
            · subst ei
              refine ⟨?_, ?_, ?_, ?_, ?_⟩
              · rw [E, mo_cw, pk_uLn (by omega), pk_uLn (by omega), pk_uLn (by omega), pk_uLn (by omega), pk_uLs]; show _ = (upd (c.gI 0) c.nC dv c.nC).toInt64; rw [pk_us]
              · rw [E, mo_cw, pk_uLn (by omega), pk_uLn (by omega), pk_uLn (by omega), pk_uLs]; show _ = (upd (c.gI 1) c.nC kd c.nC).toInt64; rw [pk_us]
              · rw [E, mo_cw, pk_uLn (by omega), pk_uLn (by omega), pk_uLs]; show _ = vp_updL (c.gL 0) c.nC se c.nC; rw [pk_uLs]
              · rw [E, mo_cw, pk_uLn (by omega), pk_uLs]; show _ = vp_updL (c.gL 1) c.nC v c.nC; rw [pk_uLs]
              · rw [E, mo_cw, pk_uLs]; show _ = vp_updL (c.gL 2) c.nC wh c.nC; rw [pk_uLs]
            · have o := R.co i (by omega)
              have F : ∀ k, k < 5 → mo_cw mL dv kd se v wh c.nC (5 * i + k) = mL 9 (5 * i + k) := fun k hk => by
                rw [mo_cw, pk_uLn (by omega), pk_uLn (by omega), pk_uLn (by omega), pk_uLn (by omega), pk_uLn (by omega)]
              refine ⟨?_, ?_, ?_, ?_, ?_⟩
              · rw [E]; have := F 0 (by omega); rw [Nat.add_zero] at this; rw [this]; show _ = (upd (c.gI 0) c.nC dv i).toInt64; rw [pk_un ei]; exact o.c0
              · rw [E, F 1 (by omega)]; show _ = (upd (c.gI 1) c.nC kd i).toInt64; rw [pk_un ei]; exact o.c1
              · rw [E, F 2 (by omega)]; show _ = vp_updL (c.gL 0) c.nC se i; rw [pk_uLn ei]; exact o.c2
              · rw [E, F 3 (by omega)]; show _ = vp_updL (c.gL 1) c.nC v i; rw [pk_uLn ei]; exact o.c3
              · rw [E, F 4 (by omega)]; show _ = vp_updL (c.gL 2) c.nC wh i; rw [pk_uLn ei]; exact o.c4
          exact rel_bit R2 hz (by omega)
  · rw [if_neg q, if_pos]
    · exact ⟨rfl, R⟩
    · cases h1 : mo_ok c.ns d with
      | false => rfl
      | true =>
        cases h2 : mo_ok c.nd dv with
        | false => rfl
        | true => exact absurd ⟨h1, h2⟩ q
def x_pn (q : Int64 × Nat × cs) : Int64 × Nat × cs := if dr_ix (dr_next q.1) q.2.2.ns = dr_ix (dr_next (dr_next q.1)) q.2.2.ns then (dr_next (dr_next q.1), q.2.1, q.2.2) else (dr_next (dr_next q.1), q.2.1 + (if (x_bring q.2.2 (dr_ix (dr_next q.1) q.2.2.ns) (dr_ix (dr_next (dr_next q.1)) q.2.2.ns)).1 = true then 1 else 0), (x_bring q.2.2 (dr_ix (dr_next q.1) q.2.2.ns) (dr_ix (dr_next (dr_next q.1)) q.2.2.ns)).2)
def x_pl (c : cs) (sd : Int64) : Nat → Int64 × Nat × cs
  | 0 => (sd, 0, c)
  | k + 1 => x_pn (x_pl c sd k)
def x_play (c : cs) (sd : Int64) (tn : Int32) : Int32 × cs := if c.ns = 0 ∨ tn < 0 ∨ ¬ tn ≤ 1000 then (-1, c) else (nI (x_pl c sd tn.toNatClampNeg).2.1, (x_pl c sd tn.toNatClampNeg).2.2)
theorem e_pl (R : Rel c sc mI mL mZ) (h0 : 0 < c.ns) (sd : Int64) (k : Nat) : (x_pl c sd k).1 = (mo_pl sc sd mI mL mZ k).1 ∧ (x_pl c sd k).2.1 = (mo_pl sc sd mI mL mZ k).2.1 ∧ (x_pl c sd k).2.2.ns = c.ns ∧ Rel (x_pl c sd k).2.2 sc (mo_pl sc sd mI mL mZ k).2.2.1 (mo_pl sc sd mI mL mZ k).2.2.2.1 (mo_pl sc sd mI mL mZ k).2.2.2.2 := by
  induction k with
  | zero => exact ⟨rfl, rfl, rfl, R⟩
  | succ k ih =>
    obtain ⟨i1, i2, i3, i4⟩ := ih
    rw [x_pl, mo_pl, x_pn, mo_pn, i4.s3, i3, i1]
    split
    · exact ⟨rfl, i2, i3, i4⟩
    · have hb := e_bring i4 (z := dr_ix (dr_next (mo_pl sc sd mI mL mZ k).1) c.ns) (y := dr_ix (dr_next (dr_next (mo_pl sc sd mI mL mZ k).1)) c.ns) (by rw [i3]; exact Nat.mod_lt _ h0) (by rw [i3]; exact Nat.mod_lt _ h0)
      exact ⟨rfl, by simp only [i2, hb.1], i3, hb.2.2⟩
theorem e_play (R : Rel c sc mI mL mZ) (sd : Int64) (tn : Int32) : rp (x_play c sd tn) (mo_play sc mI mL mZ sd tn) := by
  rw [x_play, mo_play, R.s3]
  by_cases q : c.ns = 0 ∨ tn < 0 ∨ ¬ tn ≤ 1000
  · rw [if_pos q, if_pos q]; exact ⟨rfl, R⟩
  · rw [if_neg q, if_neg q]
    obtain ⟨_, h2, _, h4⟩ := e_pl R (by omega) sd tn.toNatClampNeg
    exact ⟨by rw [h2], h4⟩
end WR
def mo_cb (mI : Nat → Nat → Int32) (z : Nat) (x : Int64) : Nat → Option Nat
  | 0 => none
  | k + 1 => if (mI 16 (10 * z + k)).toInt64 ≤ x then some (10 * z + k) else mo_cb mI z x k
def mo_ch (mI : Nat → Nat → Int32) (z : Nat) (x : Int64) : Nat → Option Nat
  | 0 => none
  | k + 1 => match mo_ch mI z x k with
    | some j => some j
    | none => if x < (mI 16 (10 * z + k)).toInt64 then some (10 * z + k) else none
def mo_wd (mI : Nat → Nat → Int32) (i j : Nat) : Int64 := (mI 16 j - mI 16 i).toInt64
def mo_ov (mI : Nat → Nat → Int32) (x : Int64) (i j : Nat) : Int64 := (mI 17 i).toInt64 * mo_wd mI i j + (x - (mI 16 i).toInt64) * (mI 17 j - mI 17 i).toInt64
def mo_of (mI : Nat → Nat → Int32) (i : Nat) : Int64 := (mI 17 i - mI 16 i).toInt64
def mo_cq (mI : Nat → Nat → Int32) (x : Int64) (pt : Int32) : Option Nat → Option Nat → Int64
  | some i, some j => if pt = 0 then mo_ov mI x i j / lN (Nat.gcd (pq (mo_ov mI x i j)) (pq (mo_wd mI i j))) else mo_wd mI i j / lN (Nat.gcd (pq (mo_ov mI x i j)) (pq (mo_wd mI i j)))
  | some i, none => if pt = 0 then x + mo_of mI i else 1
  | none, some j => if pt = 0 then x + mo_of mI j else 1
  | none, none => if pt = 0 then x + 0 else 1
def mo_corr (sc : Nat → Nat) (mI : Nat → Nat → Int32) (d : Int32) (x : Int64) (pt : Int32) : Int64 := if mo_ok (sc 0) d = true ∧ mo_in x 0 1000000 = true ∧ ¬ pt < 0 ∧ ¬ 1 < pt then mo_cq mI x pt (mo_cb mI d.toNatClampNeg x (mI 15 d.toNatClampNeg).toNatClampNeg) (mo_ch mI d.toNatClampNeg x (mI 15 d.toNatClampNeg).toNatClampNeg) else -9223372036854775808
def mo_ln (mI : Nat → Nat → Int32) (x : Int64) (i j : Nat) : Prop := ∃ a b : Nat, a < 2 ^ 63 ∧ 0 < b ∧ b < 2 ^ 63 ∧ mo_ov mI x i j = lN a ∧ mo_wd mI i j = lN b
theorem pq_lN2 {n : Nat} (h : n < 2 ^ 63) : pq (lN n) = n := by
  show (UInt64.ofNat n).toNat = n
  rw [UInt64.toNat_ofNat']
  omega
theorem cd_gcd : ∀ (k f g l : Nat), l < 2 ^ k → 2 * k + 1 ≤ f → g < 2 ^ 63 → l < 2 ^ 63 → cd_f f (lN g) (lN l) = lN (Nat.gcd g l) := by
  intro k
  induction k with
  | zero =>
    intro f g l hl hf hg _
    have : l = 0 := by simpa using hl
    subst this
    obtain ⟨f, rfl⟩ : ∃ f', f = f' + 1 := ⟨f - 1, by omega⟩
    rw [cd_f, if_pos (show lN 0 = 0 from rfl), Nat.gcd_zero_right]
  | succ k ih =>
    intro f g l hl hf hg hl6
    obtain ⟨f, rfl⟩ : ∃ f', f = f' + 2 := ⟨f - 2, by omega⟩
    rw [cd_f]
    by_cases h0 : l = 0
    · subst h0; rw [if_pos (show lN 0 = 0 from rfl), Nat.gcd_zero_right]
    · rw [if_neg (show ¬ lN l = 0 from fun e => h0 ((pk_lEQ hl6 (by omega)).mp (show lN l = lN 0 from e))), pk_lRem hg (by omega) hl6, cd_f]
      have hr : g % l < l := Nat.mod_lt _ (by omega)
      by_cases h1 : g % l = 0
      · rw [h1, if_pos (show lN 0 = 0 from rfl), Nat.gcd_comm, Nat.gcd_rec l g, h1, Nat.gcd_zero_left]
      · rw [if_neg (show ¬ lN (g % l) = 0 from fun e => h1 ((pk_lEQ (by omega) (by omega)).mp (show lN (g % l) = lN 0 from e))), pk_lRem hl6 (by omega) (by omega)]
        have h2 : l % (g % l) < 2 ^ k := by
          have a := Nat.mod_lt l (show 0 < g % l by omega)
          have b : l % (g % l) + g % l ≤ l := by
            have := Nat.div_add_mod l (g % l)
            have : 1 ≤ l / (g % l) := Nat.div_pos (by omega) (by omega)
            have := Nat.mul_le_mul_left (g % l) this
            omega
          rw [Nat.pow_succ] at hl
          omega
        have h3 : l % (g % l) < 2 ^ 63 := by have := Nat.mod_lt l (show 0 < g % l by omega); omega
        rw [ih f (g % l) (l % (g % l)) h2 (by omega) (by omega) h3]
        congr 1
        rw [Nat.gcd_comm g l, Nat.gcd_rec l g, Nat.gcd_rec (g % l) l, Nat.gcd_comm]
theorem w_nat {x : Int64} (h : ok_num x = true) : ∃ k : Nat, k ≤ 1000000 ∧ x = lN k := by
  simp only [ok_num, Bool.and_eq_true, decide_eq_true_eq, Int64.le_iff_toInt_le] at h
  have h0 : (0 : Int64).toInt = 0 := by decide
  have h1 : (1000000 : Int64).toInt = 1000000 := by decide
  rw [h0, h1] at h
  exact ⟨x.toInt.toNat, by omega, Int64.toInt_inj.mp (by rw [lN_toInt (by omega)]; omega)⟩
theorem cd_1 {g : Int64} (f : Nat) : cd_f (f + 2) g 1 = 1 := by
  rw [cd_f, if_neg (by decide), cd_f, if_pos]
  rw [Int64.div_one, Int64.mul_one, Int64.sub_self]
