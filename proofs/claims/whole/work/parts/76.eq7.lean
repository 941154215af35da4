theorem w_in {x : Int64} (h : ok_num x = true) : x.toInt32.toInt64 = x ∧ 0 ≤ x.toInt32 := by
  simp only [ok_num, Bool.and_eq_true, decide_eq_true_eq, Int64.le_iff_toInt_le] at h
  have h0 : (0 : Int64).toInt = 0 := by decide
  have h1 : (1000000 : Int64).toInt = 1000000 := by decide
  rw [h0, h1] at h
  obtain ⟨k, hk, e⟩ : ∃ k : Nat, k ≤ 1000000 ∧ x.toInt = (k : Int) := ⟨x.toInt.toNat, by omega, by omega⟩
  have ex : x = lN k := Int64.toInt_inj.mp (by rw [e, lN_toInt (by omega)])
  subst ex
  rw [lN_i, nI_l (by omega)]
  exact ⟨rfl, nI_pos' (by omega)⟩
theorem w_ix {x : Int64} {y : Int32} (h : ok_num x = true) : y.toInt64 = x ↔ y = x.toInt32 := by
  have := (w_in h).1
  constructor
  · intro e; rw [← this, w_eq] at e; exact e
  · intro e; rw [e, this]
theorem mo_in_num {x : Int64} : mo_in x 0 1000000 = ok_num x := rfl
theorem mo_in_val {x : Int64} : mo_in x (-1000000000) 1000000000 = ok_val x := rfl
theorem mo_in_kind {k : Int32} : mo_in k.toInt64 0 3 = ok_kind k := by
  rw [Bool.eq_iff_iff]
  simp only [mo_in, ok_kind, Bool.and_eq_true, decide_eq_true_eq, Int64.le_iff_toInt_le, Int32.toInt_toInt64, Int32.le_iff_toInt_le, Int32.lt_iff_toInt_lt]
  have h0 : (0 : Int64).toInt = 0 := by decide
  have h1 : (3 : Int64).toInt = 3 := by decide
  have h2 : (0 : Int32).toInt = 0 := by decide
  have h3 : (4 : Int32).toInt = 4 := by decide
  rw [h0, h1, h2, h3]
  omega
section WR
variable {c : cs} {sc : Nat → Nat} {mI : Nat → Nat → Int32} {mL : Nat → Nat → Int64} {mZ : Nat → Nat → Bool}
def x_device (c : cs) : Int32 × cs := if 4 ≤ c.nd then (-1, c) else (nI c.nd, (c.d c.nd 0 0 0 (fun _ _ => 0)).mored (c.nd + 1))
theorem e_device (R : Rel c sc mI mL mZ) : rp (x_device c) (mo_device sc mI mL mZ) := by
  have b0 := R.b0
  rw [x_device, mo_device, R.s0]
  by_cases q : 4 ≤ c.nd
  · rw [if_pos q, if_pos (by omega)]; exact ⟨rfl, R⟩
  · rw [if_neg q, if_neg (by omega)]
    refine ⟨rfl, ⟨by show va_up sc 0 (c.nd + 1) 0 = c.nd + 1; exact va_up_s, by show va_up sc 0 (c.nd + 1) 1 = c.nT; rw [va_up_n (by omega)]; exact R.s1, by show va_up sc 0 (c.nd + 1) 2 = c.nC; rw [va_up_n (by omega)]; exact R.s2, by show va_up sc 0 (c.nd + 1) 3 = c.ns; rw [va_up_n (by omega)]; exact R.s3, by show va_up sc 0 (c.nd + 1) 4 = c.nb; rw [va_up_n (by omega)]; exact R.s4, by show c.nd + 1 ≤ 4; omega, R.b1, R.b2, R.b3, fun d hd => ?_, fun d hd hd4 => ?_, R.tl, R.tb, R.tu, R.co, R.st, R.z0⟩⟩
    · show rd_ok (va_up c.dl c.nd 0 d) (va_up c.df c.nd 0 d) (va_up c.dm c.nd 0 d) (va_up c.dk c.nd (fun _ _ => 0) d) mI mL d
      have hd : d < c.nd + 1 := hd
      by_cases e : d = c.nd
      · obtain ⟨a, b, e2⟩ := R.d0 d (by omega) (by omega)
        subst e
        rw [va_up_s, va_up_s, va_up_s, va_up_s]
        exact ⟨by rw [a]; rfl, by omega, b, by decide, by rw [e2]; rfl, by omega, fun i hi => by omega, fun i hi => by omega, fun i hi => by omega, fun i hi => by omega, fun i hi => by omega, fun i hi => by omega⟩
      · rw [va_up_n e, va_up_n e, va_up_n e, va_up_n e]
        exact R.dv d (by omega)
    · have hd : c.nd + 1 ≤ d := hd
      exact R.d0 d (by omega) hd4
def x_reset (c : cs) (d : Int32) (x : Int64) : Bool × cs := if mo_ok c.nd d = true then ((xm_reset (c.dl d.toNatClampNeg) (c.df d.toNatClampNeg) x).1, c.d d.toNatClampNeg (xm_reset (c.dl d.toNatClampNeg) (c.df d.toNatClampNeg) x).2.1 (xm_reset (c.dl d.toNatClampNeg) (c.df d.toNatClampNeg) x).2.2 (c.dm d.toNatClampNeg) (c.dk d.toNatClampNeg)) else (false, c)
theorem e_reset (R : Rel c sc mI mL mZ) (d : Int32) (x : Int64) : rp (x_reset c d x) (mo_reset sc mI mL mZ d x) := by
  have b0 := R.b0
  rw [x_reset, mo_reset, R.s0]
  by_cases q : mo_ok c.nd d = true
  · rw [if_pos q]
    obtain ⟨z, hz, rfl⟩ := mo_ix (by omega) q
    rw [nI_clamp (by omega)]
    have D := R.dv z hz
    have lb := D.lb
    rw [mo_in_num]
    by_cases w : ok_num x = true ∧ c.dl z < 99
    · have h99 : ¬ mI 0 z = 99 := fun e => by rw [D.el] at e; have := (nI_eq (by omega) (by omega)).mp (show nI (c.dl z) = nI 99 from e); omega
      rw [if_pos ⟨q, w.1, h99⟩]
      have e : xm_reset (c.dl z) (c.df z) x = (true, c.dl z + 1, x) := by rw [xm_reset, if_pos w]
      rw [e]
      refine ⟨rfl, ?_⟩
      refine rel_d R hz (fun k i h h2 => ?_) (fun k i h => ?_) ⟨?_, by show c.dl z + 1 ≤ 99; omega, ?_, ?_, ?_, D.mb, D.k0, D.k1, D.r0, D.r1, D.u0, D.u1⟩
      · by_cases e : k = 0
        · subst e
          show upd (mI 0) z (mI 0 z + 1) i = mI 0 i
          rw [pk_un (h.resolve_left (fun q => q.1 rfl))]
        · show va_up mI 0 _ k i = _
          rw [va_up_n e]
      · by_cases e : k = 1
        · subst e
          show vp_updL (mL 1) z x i = mL 1 i
          rw [pk_uLn (h.resolve_left (fun q => q rfl))]
        · show va_up mL 1 _ k i = _
          rw [va_up_n e]
      · show upd (mI 0) z (mI 0 z + 1) z = _
        rw [pk_us, D.el, nI_1]
      · show vp_updL (mL 1) z x z = _
        rw [pk_uLs]
      · have := w.1; simp only [ok_num, Bool.and_eq_true, decide_eq_true_eq] at this; exact this.1
      · exact D.em
    · have e : xm_reset (c.dl z) (c.df z) x = (false, c.dl z, c.df z) := by rw [xm_reset, if_neg w]
      rw [e, if_neg (fun h => w ⟨h.2.1, by have := h.2.2; rw [D.el] at this; by_cases e9 : c.dl z = 99; (exact absurd (by rw [e9]; rfl) this); omega⟩)]
      exact ⟨rfl, by show Rel (c.d z (c.dl z) (c.df z) (c.dm z) (c.dk z)) _ _ _ _; rw [cs.d_id]; exact R⟩
  · rw [if_neg q, if_neg (fun w => q w.1)]
    exact ⟨rfl, R⟩
def x_set (c : cs) (d : Int32) : Int32 × cs := if 6 ≤ c.ns ∨ mo_ok c.nd d = false then (-1, c) else (nI c.ns, (c.z c.ns (-1) (va_up (fun _ => 0) 0 (tl_ofD c.fI c.nT d)) (fun _ => 0)).mores (c.ns + 1))
theorem mo_zs_i {d : Int32} (k : Nat) (hk : k ≤ 60) (r i : Nat) (hi : i < 60) : mo_zs sc mI mZ d k (60 * r + i) = if r = sc 3 ∧ i < k then decide (mI 2 i = d) else mZ 10 (60 * r + i) := by
  induction k with
  | zero => simp [mo_zs]
  | succ k ih =>
    rw [mo_zs]
    by_cases e : 60 * r + i = 60 * sc 3 + k
    · have e3 : r = sc 3 := by omega
      have e4 : i = k := by omega
      subst e4
      rw [e, va_up_s, if_pos ⟨e3, by omega⟩]
    · rw [va_up_n e, ih (by omega)]
      by_cases q : r = sc 3 ∧ i < k
      · rw [if_pos q, if_pos ⟨q.1, by omega⟩]
      · rw [if_neg q, if_neg (by omega)]
theorem e_set (R : Rel c sc mI mL mZ) (d : Int32) : rp (x_set c d) (mo_set sc mI mL mZ d) := by
  have b3 := R.b3
  have b1 := R.b1
  rw [x_set, mo_set, R.s0, R.s3]
  by_cases q : 6 ≤ c.ns ∨ mo_ok c.nd d = false
  · rw [if_pos q, if_pos (q.symm.imp id (fun w => by omega))]; exact ⟨rfl, R⟩
  · rw [if_neg q, if_neg (fun w => q (w.symm.imp (fun w => by omega) id)), R.s1]
    have hns : c.ns < 6 := by omega
    have Z := R.z0 c.ns (Nat.le_refl _) hns
    have e0 : ∀ r i, i < 60 → va_up mZ 10 (mo_zs sc mI mZ d c.nT) 10 (60 * r + i) = if r = c.ns ∧ i < c.nT then decide (mI 2 i = d) else mZ 10 (60 * r + i) := fun r i hi => by
      rw [va_up_s, mo_zs_i c.nT b1 r i hi, R.s3]
    have e1 : va_up mZ 10 (mo_zs sc mI mZ d c.nT) 11 = mZ 11 := va_up_n (by omega)
    have e2 : va_up mZ 10 (mo_zs sc mI mZ d c.nT) 12 = mZ 12 := va_up_n (by omega)
    refine ⟨rfl, ⟨by show va_up sc 3 (c.ns + 1) 0 = c.nd; rw [va_up_n (by omega)]; exact R.s0, by show va_up sc 3 (c.ns + 1) 1 = c.nT; rw [va_up_n (by omega)]; exact R.s1, by show va_up sc 3 (c.ns + 1) 2 = c.nC; rw [va_up_n (by omega)]; exact R.s2, by show va_up sc 3 (c.ns + 1) 3 = c.ns + 1; exact va_up_s, by show va_up sc 3 (c.ns + 1) 4 = c.nb; rw [va_up_n (by omega)]; exact R.s4, R.b0, R.b1, R.b2, by show c.ns + 1 ≤ 6; omega, R.dv, R.d0, R.tl, R.tb, R.tu, R.co, fun j hj => ?_, fun j hj hj6 => ?_⟩⟩
    · show rs_ok (va_up c.so c.ns (-1) j) (va_up c.sh c.ns (va_up (fun _ => 0) 0 (tl_ofD c.fI c.nT d)) j) (va_up c.sv c.ns (fun _ => 0) j) mI mL (va_up mZ 10 (mo_zs sc mI mZ d c.nT)) j
      have hj : j < c.ns + 1 := hj
      by_cases e : j = c.ns
      · subst e
        rw [va_up_s, va_up_s, va_up_s]
        refine ⟨⟨fun i hi => ?_, fun i hi => ?_, fun i hi => ?_, ?_⟩, Z.o, Or.inl ⟨rfl, fun k _ => rfl⟩⟩
        · rw [va_up_s, tl_ofD, bs_in_m (by omega) hi]
          by_cases h : i < 60
          · rw [e0 c.ns i h]
            by_cases w : i < c.nT
            · obtain ⟨a0, _⟩ := R.tl i w
              simp [w, h, tl_pD, a0]
            · rw [if_neg (fun x => w x.2), Z.t i h]; simp [w]
          · simp [h, show ¬ i < c.nT by omega]
        · rw [va_up_n (by omega), bs_in_0 i hi, e2]
          by_cases h : i < 20
          · rw [Z.c i h]; simp
          · simp [h]
        · rw [va_up_n (by omega), bs_in_0 i hi, e1]
          by_cases h : i < 60
          · rw [Z.ch i h]; simp
          · simp [h]
        · rw [va_up_n (by omega), Z.b]
      · rw [va_up_n e, va_up_n e, va_up_n e]
        have Q := R.st j (by omega)
        refine ⟨Q.eh.mono (fun i hi => by rw [e0 j i hi, if_neg (fun w => e w.1)]) (fun i hi => by rw [e1]) (fun i hi => by rw [e2]) rfl, Q.eo, Q.ew.imp id (fun w => ⟨w.1, w.2.mono (fun i hi => by rw [e0 (6 + j) i hi, if_neg (by omega)]) (fun i hi => by rw [e1]) (fun i hi => by rw [e2]) rfl⟩)⟩
    · have hj : c.ns + 1 ≤ j := hj
      have Q := R.z0 j (by omega) hj6
      exact ⟨fun i hi => by show va_up mZ 10 (mo_zs sc mI mZ d c.nT) 10 _ = _; rw [e0 j i hi, if_neg (by omega)]; exact Q.t i hi, fun i hi => by show va_up mZ 10 (mo_zs sc mI mZ d c.nT) 11 _ = _; rw [e1]; exact Q.ch i hi, fun i hi => by show va_up mZ 10 (mo_zs sc mI mZ d c.nT) 12 _ = _; rw [e2]; exact Q.c i hi, Q.b, Q.o⟩
def x_tell (c : cs) (d : Int32) (x : Int64) (kd : Int32) (se v wh : Int64) : Int32 × cs := if mo_ok c.nd d = true then ((xm_tell c.nT c.fI c.fL (c.dl d.toNatClampNeg) (c.df d.toNatClampNeg) d x kd se v wh).1, c.t (xm_tell c.nT c.fI c.fL (c.dl d.toNatClampNeg) (c.df d.toNatClampNeg) d x kd se v wh).2) else (-1, c)
theorem e_tell (R : Rel c sc mI mL mZ) (d : Int32) (x : Int64) (kd : Int32) (se v wh : Int64) : rp (x_tell c d x kd se v wh) (mo_tell sc mI mL mZ d x kd se v wh) := by
  have b0 := R.b0
  have b1 := R.b1
  rw [x_tell, mo_tell, mo_tok, R.s0, R.s1]
  by_cases q : mo_ok c.nd d = true
  · rw [if_pos q]
    obtain ⟨z, hz, rfl⟩ := mo_ix (by omega) q
    rw [nI_clamp (by omega)]
    have D := R.dv z hz
    have lb := D.lb
    have et : (mo_ok c.nd (nI z) && (mo_in x (mL 1 z) 1000000 && (mo_in kd.toInt64 0 3 && (mo_in se 0 1000000 && (mo_in v (-1000000000) 1000000000 && mo_in wh 0 1000000))))) = xm_tok (c.df z) x kd se v wh := by
      rw [q, mo_in_kind, mo_in_num, mo_in_num, mo_in_val, D.ef, xm_tok, Bool.true_and, ← Bool.and_assoc]
      have : mo_in x (c.df z) 1000000 = (ok_num x && !decide (x < c.df z)) := by
        have fb := D.fb
        rw [Bool.eq_iff_iff]
        simp only [mo_in, ok_num, Bool.and_eq_true, decide_eq_true_eq, Bool.not_eq_true', decide_eq_false_iff_not, Int64.le_iff_toInt_le, Int64.lt_iff_toInt_lt] at fb ⊢
        omega
      rw [this, Bool.and_assoc]
      simp only [Bool.and_assoc]
    rw [et, xm_tell]
    cases ht : xm_tok (c.df z) x kd se v wh with
    | false => rw [if_pos rfl, if_pos rfl]; exact ⟨rfl, R⟩
    | true =>
      have hT : ¬ (true = false) := by simp
      rw [if_neg hT, if_neg hT]
      simp only [xm_tok, Bool.and_eq_true, Bool.not_eq_true', decide_eq_false_iff_not] at ht
      obtain ⟨hx, hxf, hk, hse, hv, hwh⟩ := ht
      have eh : tl_has c.fI c.fL c.nT (nI z) (nI (c.dl z)) x.toInt32 kd se v = nn_any (mo_te mI mL (nI z) x kd se v) c.nT := by
        rw [tl_has]
        refine nn_any_ext (fun i hi => ?_)
        obtain ⟨a0, a1, a2, a3, a4, a5, _⟩ := R.tl i hi
        rw [tl_eq, mo_te, a0, a1, a2, a3, a4, a5, nI_clamp (by omega), D.el]
        simp only [w_ix hx, Bool.and_assoc]
      rw [eh]
      by_cases hh : nn_any (mo_te mI mL (nI z) x kd se v) c.nT = true
      · rw [if_pos hh, if_pos hh]; exact ⟨rfl, R⟩
      · rw [if_neg hh, if_neg hh, tl_add]
        by_cases h6 : 60 ≤ c.nT
        · rw [if_pos h6, if_pos (show c.nT = 60 by omega)]; exact ⟨rfl, R⟩
        · rw [if_neg h6, if_neg (show ¬ c.nT = 60 by omega)]
          refine ⟨rfl, ⟨by show va_up sc 1 (c.nT + 1) 0 = c.nd; rw [va_up_n (by omega)]; exact R.s0, by show va_up sc 1 (c.nT + 1) 1 = c.nT + 1; exact va_up_s, by show va_up sc 1 (c.nT + 1) 2 = c.nC; rw [va_up_n (by omega)]; exact R.s2, by show va_up sc 1 (c.nT + 1) 3 = c.ns; rw [va_up_n (by omega)]; exact R.s3, by show va_up sc 1 (c.nT + 1) 4 = c.nb; rw [va_up_n (by omega)]; exact R.s4, R.b0, by show c.nT + 1 ≤ 60; omega, R.b2, R.b3, fun d hd => (R.dv d hd).mono rfl rfl rfl (fun _ _ => rfl) (fun _ _ => rfl), R.d0, fun i hi => ?_, fun i hi => ?_, fun i j hi hj => ?_, fun i hi => (R.co i hi).mono (fun _ _ => rfl), fun j hj => ⟨(R.st j hj).eh.mono (fun _ _ => rfl) (fun _ _ => rfl) (fun _ _ => rfl) rfl, (R.st j hj).eo, (R.st j hj).ew.imp id (fun w => ⟨w.1, w.2.mono (fun _ _ => rfl) (fun _ _ => rfl) (fun _ _ => rfl) rfl⟩)⟩, fun j hj hj6 => ⟨(R.z0 j hj hj6).t, (R.z0 j hj hj6).ch, (R.z0 j hj hj6).c, (R.z0 j hj hj6).b, (R.z0 j hj hj6).o⟩⟩⟩
          · have hi : i < c.nT + 1 := hi
            show tr_ok (va_up (va_up (va_up (va_up c.fI 0 _) 1 _) 2 _) 3 _) (va_up (va_up (va_up c.fL 0 _) 1 _) 2 _) (va_up (va_up (va_up (va_up (va_up (va_up mI 2 _) 3 _) 4 _) 5 _) 6 _) 8 _) (va_up mL 7 _) i
            by_cases e : i = c.nT
            · subst e
              refine ⟨?_, ?_, ?_, ?_, ?_, ?_, ?_⟩
              · show upd _ _ _ _ = upd _ _ _ _; rw [pk_us, pk_us]
              · show upd _ _ _ _ = upd _ _ _ _; rw [pk_us, pk_us, D.el]
              · show upd _ _ _ _ = upd _ _ _ _; rw [pk_us, pk_us]
              · show upd _ _ _ _ = upd _ _ _ _; rw [pk_us, pk_us]
              · show vp_updL _ _ _ _ = (upd _ _ _ _).toInt64; rw [pk_us, pk_uLs, (w_in hse).1]
              · show vp_updL _ _ _ _ = vp_updL _ _ _ _; rw [pk_uLs, pk_uLs]
              · show vp_updL _ _ _ _ = (upd _ _ _ _).toInt64; rw [pk_us, pk_uLs, (w_in hwh).1]
            · obtain ⟨a0, a1, a2, a3, a4, a5, a6⟩ := R.tl i (by omega)
              refine ⟨?_, ?_, ?_, ?_, ?_, ?_, ?_⟩
              · show upd _ _ _ _ = upd _ _ _ _; rw [pk_un e, pk_un e]; exact a0
              · show upd _ _ _ _ = upd _ _ _ _; rw [pk_un e, pk_un e]; exact a1
              · show upd _ _ _ _ = upd _ _ _ _; rw [pk_un e, pk_un e]; exact a2
              · show upd _ _ _ _ = upd _ _ _ _; rw [pk_un e, pk_un e]; exact a3
              · show vp_updL _ _ _ _ = (upd _ _ _ _).toInt64; rw [pk_un e, pk_uLn e]; exact a4
              · show vp_updL _ _ _ _ = vp_updL _ _ _ _; rw [pk_uLn e, pk_uLn e]; exact a5
              · show vp_updL _ _ _ _ = (upd _ _ _ _).toInt64; rw [pk_un e, pk_uLn e]; exact a6
          · have hi : i < c.nT + 1 := hi
            show 0 ≤ upd (c.fI 1) c.nT (nI (c.dl z)) i ∧ 0 ≤ upd (c.fI 2) c.nT x.toInt32 i
            by_cases e : i = c.nT
            · subst e; rw [pk_us, pk_us]; exact ⟨nI_pos' (by omega), (w_in hx).2⟩
            · rw [pk_un e, pk_un e]; exact R.tb i (by omega)
          · have hi : i < c.nT + 1 := hi
            have hj : j < c.nT + 1 := hj
            show tl_sk (va_up (va_up (va_up (va_up c.fI 0 (upd (c.fI 0) c.nT (nI z))) 1 (upd (c.fI 1) c.nT (nI (c.dl z)))) 2 (upd (c.fI 2) c.nT x.toInt32)) 3 (upd (c.fI 3) c.nT kd)) i j = true → vp_updL (c.fL 0) c.nT se i = vp_updL (c.fL 0) c.nT se j → vp_updL (c.fL 1) c.nT v i = vp_updL (c.fL 1) c.nT v j → i = j
            have hno : ∀ i, i < c.nT → ¬ (c.fI 0 i = nI z ∧ c.fI 1 i = nI (c.dl z) ∧ c.fI 2 i = x.toInt32 ∧ c.fI 3 i = kd ∧ c.fL 0 i = se ∧ c.fL 1 i = v) := fun i hi w => by
              rw [← eh, tl_has] at hh
              apply hh
              exact nn_any_of hi (by simp [tl_eq, w.1, w.2.1, w.2.2.1, w.2.2.2.1, w.2.2.2.2.1, w.2.2.2.2.2])
            intro hs h0 h1
            simp only [tl_sk, Bool.and_eq_true, decide_eq_true_eq] at hs
            obtain ⟨⟨⟨k0, k1⟩, k2⟩, k3⟩ := hs
            have k0 : upd (c.fI 0) c.nT (nI z) i = upd (c.fI 0) c.nT (nI z) j := k0
            have k1 : upd (c.fI 1) c.nT (nI (c.dl z)) i = upd (c.fI 1) c.nT (nI (c.dl z)) j := k1
            have k2 : upd (c.fI 2) c.nT x.toInt32 i = upd (c.fI 2) c.nT x.toInt32 j := k2
            have k3 : upd (c.fI 3) c.nT kd i = upd (c.fI 3) c.nT kd j := k3
            by_cases ei : i = c.nT
            · by_cases ej : j = c.nT
              · omega
              · exfalso
                subst ei
                rw [pk_us, pk_un ej] at k0 k1 k2 k3
                rw [pk_uLs, pk_uLn ej] at h0 h1
                exact hno j (by omega) ⟨k0.symm, k1.symm, k2.symm, k3.symm, h0.symm, h1.symm⟩
            · by_cases ej : j = c.nT
              · exfalso
                subst ej
                rw [pk_us, pk_un ei] at k0 k1 k2 k3
                rw [pk_uLs, pk_uLn ei] at h0 h1
                exact hno i (by omega) ⟨k0, k1, k2, k3, h0, h1⟩
              · rw [pk_un ei, pk_un ej] at k0 k1 k2 k3
                rw [pk_uLn ei, pk_uLn ej] at h0 h1
                exact R.tu i j (by omega) (by omega) (by simp [tl_sk, k0, k1, k2, k3]) h0 h1
  · rw [if_neg q, Bool.eq_false_iff.mpr q, Bool.false_and, if_pos rfl]
    exact ⟨rfl, R⟩
def x_mark (c : cs) (d : Int32) (x y : Int64) : Bool × cs := if mo_ok c.nd d = true then ((xm_mark (c.dm d.toNatClampNeg) (c.dk d.toNatClampNeg) x y).1, c.d d.toNatClampNeg (c.dl d.toNatClampNeg) (c.df d.toNatClampNeg) (xm_mark (c.dm d.toNatClampNeg) (c.dk d.toNatClampNeg) x y).2.1 (xm_mark (c.dm d.toNatClampNeg) (c.dk d.toNatClampNeg) x y).2.2) else (false, c)
theorem e_mark (R : Rel c sc mI mL mZ) (d : Int32) (x y : Int64) : rp (x_mark c d x y) (mo_mark sc mI mL mZ d x y) := by
  have b0 := R.b0
  rw [x_mark]
  by_cases q : mo_ok c.nd d = true
  · rw [if_pos q]
    obtain ⟨z, hz, rfl⟩ := mo_ix (by omega) q
    have hc : (nI z).toNatClampNeg = z := nI_clamp (by omega)
    rw [hc]
    have D := R.dv z hz
    have mb := D.mb
    have hm : (mI 15 z).toNatClampNeg = c.dm z := by rw [D.em, nI_clamp (by omega)]
    by_cases hxy : ok_num x = true ∧ ok_num y = true
    · by_cases w : 10 ≤ c.dm z ∨ (0 < c.dm z ∧ (x ≤ c.dk z 0 (c.dm z - 1) ∨ y < c.dk z 1 (c.dm z - 1)))
      · have e : xm_mark (c.dm z) (c.dk z) x y = (false, c.dm z, c.dk z) := by rw [xm_mark, if_pos hxy, ck_add, if_pos w]
        rw [e, mo_mark_f (fun h => ?_)]
        · exact ⟨rfl, by show Rel (c.d z (c.dl z) (c.df z) (c.dm z) (c.dk z)) _ _ _ _; rw [cs.d_id]; exact R⟩
        · obtain ⟨_, _, _, h1, h2⟩ := h
          rw [hc] at h1 h2
          rw [hm] at h1
          rcases w with w | w
          · omega
          · apply h2
            rw [mo_mk, hm, show 10 * z + c.dm z - 1 = 10 * z + (c.dm z - 1) by omega, ← D.k0 _ (by omega), ← D.k1 _ (by omega)]
            exact w
      · have e : xm_mark (c.dm z) (c.dk z) x y = (true, c.dm z + 1, va_up (va_up (c.dk z) 0 (vp_updL (c.dk z 0) (c.dm z) x)) 1 (vp_updL (c.dk z 1) (c.dm z) y)) := by rw [xm_mark, if_pos hxy, ck_add, if_neg w]
        rw [e, mo_mark_t (show mo_mok sc mI (nI z) x y from ⟨by rw [R.s0]; exact q, by rw [mo_in_num]; exact hxy.1, by rw [mo_in_num]; exact hxy.2, by rw [hc, hm]; omega, fun h => ?_⟩)]
        · rw [hc, hm]
          refine ⟨rfl, ?_⟩
          refine rel_d R hz (fun k i h h2 => ?_) (fun k i h => rfl) ⟨?_, D.lb, D.ef, D.fb, ?_, by show c.dm z + 1 ≤ 10; omega, fun i hi => ?_, fun i hi => ?_, fun i hi => ?_, fun i hi => ?_, fun i hi => ?_, fun i hi => ?_⟩
          · show va_up (va_up (va_up mI 16 _) 17 _) 15 _ k i = _
            by_cases e5 : k = 15
            · subst e5; rw [va_up_s, pk_un (h.resolve_left (fun q => q.2 rfl))]
            · rw [va_up_n e5]
              by_cases e7 : k = 17
              · subst e7; rw [va_up_s, pk_un (by have := h2.resolve_left (fun q => q.2 rfl); omega)]
              · rw [va_up_n e7]
                by_cases e6 : k = 16
                · subst e6; rw [va_up_s, pk_un (by have := h2.resolve_left (fun q => q.1 rfl); omega)]
                · rw [va_up_n e6]
          · exact D.el
          · show upd (mI 15) z _ z = _
            rw [pk_us]
          · have hi : i < c.dm z + 1 := hi
            show vp_updL (c.dk z 0) (c.dm z) x i = (upd (mI 16) (10 * z + c.dm z) x.toInt32 (10 * z + i)).toInt64
            by_cases e : i = c.dm z
            · rw [e, pk_uLs, pk_us, (w_in hxy.1).1]
            · rw [pk_uLn e, pk_un (by omega)]; exact D.k0 i (by omega)
          · have hi : i < c.dm z + 1 := hi
            show vp_updL (c.dk z 1) (c.dm z) y i = (upd (mI 17) (10 * z + c.dm z) y.toInt32 (10 * z + i)).toInt64
            by_cases e : i = c.dm z
            · rw [e, pk_uLs, pk_us, (w_in hxy.2).1]
            · rw [pk_uLn e, pk_un (by omega)]; exact D.k1 i (by omega)
          · have hi : i < c.dm z + 1 := hi
            show ok_num (vp_updL (c.dk z 0) (c.dm z) x i) = true
            by_cases e : i = c.dm z
            · rw [e, pk_uLs]; exact hxy.1
            · rw [pk_uLn e]; exact D.r0 i (by omega)
          · have hi : i < c.dm z + 1 := hi
            show ok_num (vp_updL (c.dk z 1) (c.dm z) y i) = true
            by_cases e : i = c.dm z
            · rw [e, pk_uLs]; exact hxy.2
            · rw [pk_uLn e]; exact D.r1 i (by omega)
          · have hi : i + 1 < c.dm z + 1 := hi
            show vp_updL (c.dk z 0) (c.dm z) x i < vp_updL (c.dk z 0) (c.dm z) x (i + 1)
            rw [pk_uLn (by omega)]
            by_cases e : i + 1 = c.dm z
            · rw [e, pk_uLs]
              have w1 : ¬ x ≤ c.dk z 0 (c.dm z - 1) := fun h => w (Or.inr ⟨by omega, Or.inl h⟩)
              rw [show c.dm z - 1 = i by omega] at w1
              simp only [Int64.le_iff_toInt_le, Int64.lt_iff_toInt_lt] at w1 ⊢
              omega
            · rw [pk_uLn e]; exact D.u0 i (by omega)
          · have hi : i + 1 < c.dm z + 1 := hi
            show vp_updL (c.dk z 1) (c.dm z) y i ≤ vp_updL (c.dk z 1) (c.dm z) y (i + 1)
            rw [pk_uLn (by omega)]
            by_cases e : i + 1 = c.dm z
            · rw [e, pk_uLs]
              have w1 : ¬ y < c.dk z 1 (c.dm z - 1) := fun h => w (Or.inr ⟨by omega, Or.inr h⟩)
              rw [show c.dm z - 1 = i by omega] at w1
              simp only [Int64.le_iff_toInt_le, Int64.lt_iff_toInt_lt] at w1 ⊢
              omega
            · rw [pk_uLn e]; exact D.u1 i (by omega)
        · rw [hc, mo_mk, hm] at h
          rw [show 10 * z + c.dm z - 1 = 10 * z + (c.dm z - 1) by omega, ← D.k0 _ (by omega), ← D.k1 _ (by omega)] at h
          exact w (Or.inr h)
    · have e : xm_mark (c.dm z) (c.dk z) x y = (false, c.dm z, c.dk z) := by rw [xm_mark, if_neg hxy]
      rw [e, mo_mark_f (fun h => hxy ⟨by rw [← mo_in_num]; exact h.2.1, by rw [← mo_in_num]; exact h.2.2.1⟩)]
      exact ⟨rfl, by show Rel (c.d z (c.dl z) (c.df z) (c.dm z) (c.dk z)) _ _ _ _; rw [cs.d_id]; exact R⟩
  · rw [if_neg q, mo_mark_f (fun h => q (by rw [← R.s0]; exact h.1))]
    exact ⟨rfl, R⟩
end WR
