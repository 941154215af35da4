theorem w_eq {x y : Int32} : x.toInt64 = y.toInt64 ↔ x = y := by
  rw [← Int64.toInt_inj, Int32.toInt_toInt64, Int32.toInt_toInt64, Int32.toInt_inj]
theorem w_lt {x y : Int32} : x.toInt64 < y.toInt64 ↔ x < y := by
  rw [Int64.lt_iff_toInt_lt, Int32.toInt_toInt64, Int32.toInt_toInt64, Int32.lt_iff_toInt_lt]
theorem w_le {x y : Int32} : x.toInt64 ≤ y.toInt64 ↔ x ≤ y := by
  rw [Int64.le_iff_toInt_le, Int32.toInt_toInt64, Int32.toInt_toInt64, Int32.le_iff_toInt_le]
section RL
variable {fI : Nat → Nat → Int32} {fL : Nat → Nat → Int64} {mI : Nat → Nat → Int32} {mL : Nat → Nat → Int64} {mZ : Nat → Nat → Bool} {n r : Nat} {h : Nat → Int64}
theorem tl_bf_k {a b : Nat} (hk : tl_sk fI a b = true) : tl_bf fI fL a b = if ¬ fL 0 a = fL 0 b then decide (fL 0 a < fL 0 b) else decide (fL 1 a < fL 1 b) := by
  simp only [tl_sk, Bool.and_eq_true, decide_eq_true_eq] at hk
  obtain ⟨⟨⟨k0, k1⟩, k2⟩, k3⟩ := hk
  simp only [tl_bf, k0, k1, k2, k3, not_true, if_false]
theorem tl_bf_i {a b : Nat} (hk : tl_sk fI a b = true) : tl_bf fI fL a b = true ↔ ((fL 0 a).toInt < (fL 0 b).toInt ∨ ((fL 0 a).toInt = (fL 0 b).toInt ∧ (fL 1 a).toInt < (fL 1 b).toInt)) := by
  rw [tl_bf_k hk]
  by_cases e : fL 0 a = fL 0 b
  · rw [if_neg (by simp [e]), decide_eq_true_eq, Int64.lt_iff_toInt_lt, e]; omega
  · rw [if_pos e, decide_eq_true_eq, Int64.lt_iff_toInt_lt]
    have : ¬ (fL 0 a).toInt = (fL 0 b).toInt := fun q => e (Int64.toInt_inj.mp q)
    omega
theorem tl_bf_irr (a : Nat) : tl_bf fI fL a a = false := by
  rw [tl_bf_k (tl_sk_r a)]; simp [Int64.lt_iff_toInt_lt]
theorem rl_bf (ht : ∀ i, i < n → tr_ok fI fL mI mL i) {i j : Nat} (hi : i < n) (hj : j < n) (hk : tl_sk fI i j = true) : tl_bf fI fL i j = mo_bf mI mL i j := by
  obtain ⟨_, _, _, _, a4, a5, _⟩ := ht i hi
  obtain ⟨_, _, _, _, b4, b5, _⟩ := ht j hj
  rw [tl_bf_k hk, mo_bf, a4, b4, a5, b5]
  simp only [w_eq, w_lt]
theorem rl_first (hn : n ≤ 60) (hu : tr_un fI fL n) {am : Int64} {t i : Nat} (hs : ∀ j, j < n → bs_in am j = true → tl_sk fI j t = true) : tl_first fI fL n am = some i ↔ (i < n ∧ bs_in am i = true ∧ ∀ j, j < n → bs_in am j = true → tl_bf fI fL j i = false) := by
  have S : ∀ a b, a < n → b < n → bs_in am a = true → bs_in am b = true → tl_sk fI a b = true := fun a b ha hb pa pb => tl_sk_t (hs a ha pa) (by rw [tl_sk_c]; exact hs b hb pb)
  rw [tl_first]
  refine nn_fm_iff tl_bf_irr ?_ ?_
  · intro a b c ha hb hc pa pb pc h1 h2
    rw [tl_bf_i (S a b ha hb pa pb)] at h1
    rw [tl_bf_i (S b c hb hc pb pc)] at h2
    rw [tl_bf_i (S a c ha hc pa pc)]
    omega
  · intro a b ha hb pa pb hne
    have s := S a b ha hb pa pb
    rw [tl_bf_i s, tl_bf_i (S b a hb ha pb pa)]
    have := hu a b ha hb s
    rcases Int.lt_trichotomy (fL 0 a).toInt (fL 0 b).toInt with q | q | q
    · exact Or.inl (Or.inl q)
    · rcases Int.lt_trichotomy (fL 1 a).toInt (fL 1 b).toInt with q2 | q2 | q2
      · exact Or.inl (Or.inr ⟨q, q2⟩)
      · exact absurd (this (Int64.toInt_inj.mp q) (Int64.toInt_inj.mp q2)) hne
      · exact Or.inr (Or.inr ⟨q.symm, q2⟩)
    · exact Or.inr (Or.inl q)
def rl_sp (mI : Nat → Nat → Int32) (mL : Nat → Nat → Int64) (mZ : Nat → Nat → Bool) (n r : Nat) (dv kd : Int32) (i : Nat) : Bool := decide (mI 2 i = dv) && (decide (mI 5 i = kd) && mo_se mI mL mZ n r i)
theorem rl_se (hn : n ≤ 60) (ht : ∀ i, i < n → tr_ok fI fL mI mL i) (hu : tr_un fI fL n) (hh : hr h mL mZ r) {dv kd : Int32} {i : Nat} (hi : i < n) : tl_pH fI fL n (xl_live fL n h &&& tl_ofK fI n dv kd) (h 2) i = rl_sp mI mL mZ n r dv kd i := by
  have L : ∀ j, j < n → bs_in (xl_live fL n h) j = mo_he mI mL mZ r j := fun j hj => rl_live hn ht hh hj
  have K : ∀ j, j < n → tl_sk fI j i = mo_sk mI i j := fun j hj => by rw [tl_sk_c]; exact rl_sk ht hi hj
  have C : ∀ j, j < n → bs_in (h 2) j = mZ 11 (60 * r + j) := fun j hj => by rw [hh.ch j (by omega)]; simp [show j < 60 by omega]
  have V : ∀ j, j < n → bs_in (xl_live fL n h &&& tl_ofK fI n dv kd) j = (mo_he mI mL mZ r j && (decide (fI 0 j = dv) && decide (fI 3 j = kd))) := fun j hj => by
    rw [bs_in_and (by omega), L j hj, tl_ofK, bs_in_m (by omega) (by omega)]; simp [hj, tl_pK]
  generalize hlv : xl_live fL n h &&& tl_ofK fI n dv kd = lv at V
  obtain ⟨a0, _, _, a3, _⟩ := ht i hi
  by_cases hd : fI 0 i = dv ∧ fI 3 i = kd
  · have V2 : ∀ j, j < n → (bs_in lv j && tl_sk fI j i) = (mo_he mI mL mZ r j && mo_sk mI i j) := fun j hj => by
      rw [V j hj, ← K j hj]
      cases hs : tl_sk fI j i with
      | false => simp
      | true =>
        simp only [tl_sk, Bool.and_eq_true, decide_eq_true_eq] at hs
        simp [hs.1.1.1, hs.2, hd.1, hd.2]
    have Vi : bs_in lv i = mo_he mI mL mZ r i := by rw [V i hi]; simp [hd.1, hd.2]
    have P : ∀ j, j < n → bs_in (tl_key fI n i lv &&& h 2) j = (mo_he mI mL mZ r j && mo_sk mI i j && mZ 11 (60 * r + j)) := fun j hj => by
      rw [bs_in_and (by omega), rl_key hn (by omega), V2 j hj, C j hj]; simp [hj]
    have Q : tl_first fI fL n (tl_key fI n i lv &&& h 2) = some i ↔ _ := rl_first hn hu (t := i) (fun j hj q => by rw [K j hj]; rw [P j hj] at q; simp only [Bool.and_eq_true] at q; exact q.1.2)
    rw [Bool.eq_iff_iff]
    simp only [tl_pH, rl_sp, mo_se, Bool.and_eq_true, Bool.or_eq_true, decide_eq_true_eq, ← a0, ← a3, hd.1, hd.2, true_and, Vi]
    constructor
    · rintro ⟨h1, h2⟩
      refine ⟨h1, ?_⟩
      rcases h2 with h2 | h2
      · left
        rw [rl_alone hn hi (by rw [Vi]; exact h1)] at h2
        rw [se_al_e, Bool.not_eq_true', nn_any_no]
        intro j hj
        by_cases e : j = i
        · simp [mo_so, e]
        · have := h2 j hj e
          rw [V2 j hj] at this
          simp only [mo_so, e, decide_false, Bool.not_false, Bool.true_and]
          rw [Bool.and_comm]; exact this
      · right
        rw [Q] at h2
        obtain ⟨_, p1, p2⟩ := h2
        rw [P i hi] at p1
        simp only [Bool.and_eq_true] at p1
        rw [se_fi_e, Bool.and_eq_true, Bool.not_eq_true', nn_any_no]
        refine ⟨by simp [mo_cs, p1.1.1, p1.2], fun j hj => ?_⟩
        simp only [mo_sp, mo_so, mo_cs]
        cases a : mo_he mI mL mZ r j <;> cases b : mo_sk mI i j <;> cases c : mZ 11 (60 * r + j) <;> simp
        intro _
        have := p2 j hj (by rw [P j hj, a, b, c]; rfl)
        rw [rl_bf ht hj hi (by rw [K j hj]; exact b)] at this
        exact this
    · rintro ⟨h1, h2⟩
      refine ⟨h1, ?_⟩
      rcases h2 with h2 | h2
      · left
        rw [rl_alone hn hi (by rw [Vi]; exact h1)]
        intro j hj e
        rw [se_al_e, Bool.not_eq_true', nn_any_no] at h2
        have := h2 j hj
        simp only [mo_so, e, decide_false, Bool.not_false, Bool.true_and] at this
        rw [V2 j hj, Bool.and_comm]; exact this
      · right
        rw [se_fi_e, Bool.and_eq_true, Bool.not_eq_true', nn_any_no] at h2
        obtain ⟨p1, p2⟩ := h2
        rw [Q]
        simp only [mo_cs, Bool.and_eq_true] at p1
        have hki : mo_sk mI i i = true := by simp [mo_sk]
        refine ⟨hi, by rw [P i hi, p1.1, p1.2, hki]; rfl, fun j hj pj => ?_⟩
        rw [P j hj] at pj
        simp only [Bool.and_eq_true] at pj
        by_cases e : j = i
        · subst e; exact tl_bf_irr _
        · have := p2 j hj
          rw [rl_bf ht hj hi (by rw [K j hj]; exact pj.1.2)]
          simpa [mo_sp, mo_so, mo_cs, e, pj.1.1, pj.1.2, pj.2] using this
  · have Vi : bs_in lv i = false := by
      rw [V i hi]
      by_cases q : fI 0 i = dv
      · by_cases q2 : fI 3 i = kd
        · exact absurd ⟨q, q2⟩ hd
        · simp [q2]
      · simp [q]
    have : rl_sp mI mL mZ n r dv kd i = false := by
      by_cases q : fI 0 i = dv
      · by_cases q2 : fI 3 i = kd
        · exact absurd ⟨q, q2⟩ hd
        · rw [a3] at q2; simp [rl_sp, q2]
      · rw [a0] at q; simp [rl_sp, q]
    rw [this, tl_pH, Vi]; rfl
theorem rl_seen (hn : n ≤ 60) (ht : ∀ i, i < n → tr_ok fI fL mI mL i) (hu : tr_un fI fL n) (hh : hr h mL mZ r) {dv kd : Int32} : xl_seen fI fL n h dv kd = bs_m (rl_sp mI mL mZ n r dv kd) n := by
  rw [xl_seen, tl_hold]
  exact bs_m_ext (fun i hi => rl_se hn ht hu hh hi)
theorem rl_uni (ht : ∀ i, i < n → tr_ok fI fL mI mL i) (hu : tr_un fI fL n) {i j : Nat} (hi : i < n) (hj : j < n) (hne : i ≠ j) (si : mo_se mI mL mZ n r i = true) (sj : mo_se mI mL mZ n r j = true) : mo_sk mI i j = false := by
  cases hk : mo_sk mI i j with
  | false => rfl
  | true =>
    exfalso
    have hkc : mo_sk mI j i = true := by rw [← rl_sk ht hj hi, tl_sk_c, rl_sk ht hi hj]; exact hk
    have hki : tl_sk fI i j = true := by rw [rl_sk ht hi hj]; exact hk
    simp only [mo_se, Bool.and_eq_true, Bool.or_eq_true, se_al_e, se_fi_e, Bool.not_eq_true', nn_any_no] at si sj
    have soij : mo_so mI mL mZ r i j = true := by simp [mo_so, hk, sj.1, Ne.symm hne]
    have soji : mo_so mI mL mZ r j i = true := by simp [mo_so, hkc, si.1, hne]
    rcases si.2 with a | a
    · have := a j hj; rw [soij] at this; cases this
    · rcases sj.2 with b | b
      · have := b i hi; rw [soji] at this; cases this
      · have h1 := a.2 j hj
        have h2 := b.2 i hi
        simp only [mo_sp, soij, soji, a.1, b.1, Bool.true_and] at h1 h2
        rw [← rl_bf ht hj hi (by rw [tl_sk_c]; exact hki)] at h1
        rw [← rl_bf ht hi hj hki] at h2
        have t1 := tl_bf_i (fI := fI) (fL := fL) hki
        have t2 := tl_bf_i (fI := fI) (fL := fL) (a := j) (b := i) (by rw [tl_sk_c]; exact hki)
        rw [h1] at t2
        rw [h2] at t1
        simp only [Bool.false_eq_true, false_iff] at t1 t2
        exact hne (hu i j hi hj hki (Int64.toInt_inj.mp (by omega)) (Int64.toInt_inj.mp (by omega)))
end RL
