def bs_b (k : Nat) : Int64 := (1 : Int64) <<< ((nI k).toInt64 &&& 63)
def bs_in (x : Int64) (k : Nat) : Bool := decide (¬ (x &&& bs_b k) = 0)
def bs_m (p : Nat → Bool) : Nat → Int64
  | 0 => 0
  | k + 1 => if p k = true then bs_m p k ||| bs_b k else bs_m p k
def nn_any (p : Nat → Bool) : Nat → Bool
  | 0 => false
  | k + 1 => nn_any p k || p k
def nn_ct (p : Nat → Bool) : Nat → Nat
  | 0 => 0
  | k + 1 => if p k = true then nn_ct p k + 1 else nn_ct p k
def nn_sm (p : Nat → Bool) (f : Nat → Int64) : Nat → Int64
  | 0 => 0
  | k + 1 => if p k = true then nn_sm p f k + f k else nn_sm p f k
def nn_ff (p : Nat → Bool) : Nat → Option Nat
  | 0 => none
  | k + 1 => match nn_ff p k with
    | some j => some j
    | none => if p k = true then some k else none
def nn_up (lt : Nat → Nat → Bool) (k : Nat) : Option Nat → Option Nat
  | none => some k
  | some j => if lt k j = true then some k else some j
def nn_fm (p : Nat → Bool) (lt : Nat → Nat → Bool) : Nat → Option Nat
  | 0 => none
  | k + 1 => if p k = true then nn_up lt k (nn_fm p lt k) else nn_fm p lt k
theorem nn_fm_lt {p : Nat → Bool} {lt : Nat → Nat → Bool} : ∀ {n j : Nat}, nn_fm p lt n = some j → j < n := by
  intro n
  induction n with
  | zero => intro j h; simp [nn_fm] at h
  | succ n ih =>
    intro j h
    simp only [nn_fm] at h
    by_cases hp : p n = true
    · rw [if_pos hp] at h
      cases hq : nn_fm p lt n with
      | none => rw [hq] at h; simp [nn_up] at h; omega
      | some i =>
        rw [hq] at h
        have := ih hq
        simp only [nn_up] at h
        by_cases hl : lt n i = true
        · rw [if_pos hl] at h; cases h; omega
        · rw [if_neg hl] at h; cases h; omega
    · rw [if_neg hp] at h
      have := ih h
      omega
theorem nn_any_of {p : Nat → Bool} {k n : Nat} (hk : k < n) (hp : p k = true) : nn_any p n = true := by
  induction n with
  | zero => omega
  | succ n ih =>
    simp only [nn_any, Bool.or_eq_true]
    rcases Nat.lt_succ_iff_lt_or_eq.mp hk with h | h
    · exact Or.inl (ih h)
    · subst h; exact Or.inr hp
theorem nn_any_iff {p : Nat → Bool} {n : Nat} : nn_any p n = true ↔ ∃ k, k < n ∧ p k = true := by
  constructor
  · induction n with
    | zero => intro h; simp [nn_any] at h
    | succ n ih =>
      intro h
      simp only [nn_any, Bool.or_eq_true] at h
      rcases h with h | h
      · obtain ⟨k, h1, h2⟩ := ih h
        exact ⟨k, by omega, h2⟩
      · exact ⟨n, by omega, h⟩
  · rintro ⟨k, h1, h2⟩
    exact nn_any_of h1 h2
theorem nn_ff_of {p : Nat → Bool} {k n : Nat} (hk : k < n) (h0 : nn_ff p k = none) (hp : p k = true) : nn_ff p n = some k := by
  induction n with
  | zero => omega
  | succ n ih =>
    rcases Nat.lt_succ_iff_lt_or_eq.mp hk with h | h
    · simp [nn_ff, ih h]
    · subst h; simp [nn_ff, h0, hp]
theorem nn_ff_lt {p : Nat → Bool} : ∀ {n j : Nat}, nn_ff p n = some j → j < n ∧ p j = true := by
  intro n
  induction n with
  | zero => intro j h; simp [nn_ff] at h
  | succ n ih =>
    intro j h
    simp only [nn_ff] at h
    cases hq : nn_ff p n with
    | none =>
      rw [hq] at h
      by_cases hp : p n = true
      · simp [hp] at h; subst h; exact ⟨by omega, hp⟩
      · simp [hp] at h
    | some i =>
      rw [hq] at h
      cases h
      obtain ⟨h1, h2⟩ := ih hq
      exact ⟨by omega, h2⟩
theorem nn_ct_le {p : Nat → Bool} {n : Nat} : nn_ct p n ≤ n := by
  induction n with
  | zero => exact Nat.le_refl _
  | succ n ih =>
    simp only [nn_ct]
    by_cases hp : p n = true
    · rw [if_pos hp]; omega
    · rw [if_neg hp]; omega
theorem nn_fm_congr {p q : Nat → Bool} {lt lu : Nat → Nat → Bool} {n : Nat} (hp : ∀ i, i < n → p i = q i) (hl : ∀ i j, i < n → j < n → q i = true → q j = true → lt i j = lu i j) (hq : ∀ k j, k ≤ n → nn_fm q lu k = some j → q j = true) : nn_fm p lt n = nn_fm q lu n := by
  have K : ∀ k, k ≤ n → nn_fm p lt k = nn_fm q lu k := by
    intro k
    induction k with
    | zero => intro _; rfl
    | succ k ih =>
      intro hk
      have e := ih (by omega)
      simp only [nn_fm, e, hp k (by omega)]
      by_cases h : q k = true
      · rw [if_pos h, if_pos h]
        cases hf : nn_fm q lu k with
        | none => rfl
        | some j => simp only [nn_up]; rw [hl k j (by omega) (by have := nn_fm_lt hf; omega) h (hq k j (by omega) hf)]
      · rw [if_neg h, if_neg h]
  exact K n (Nat.le_refl n)
theorem nn_fm_p {p : Nat → Bool} {lt : Nat → Nat → Bool} : ∀ {n j : Nat}, nn_fm p lt n = some j → p j = true := by
  intro n
  induction n with
  | zero => intro j h; simp [nn_fm] at h
  | succ n ih =>
    intro j h
    simp only [nn_fm] at h
    by_cases hp : p n = true
    · rw [if_pos hp] at h
      cases hq : nn_fm p lt n with
      | none => rw [hq] at h; simp [nn_up] at h; subst h; exact hp
      | some i =>
        rw [hq] at h
        simp only [nn_up] at h
        by_cases hl : lt n i = true
        · rw [if_pos hl] at h; cases h; exact hp
        · rw [if_neg hl] at h; cases h; exact ih hq
    · rw [if_neg hp] at h
      exact ih h
theorem nn_fm_ext {p q : Nat → Bool} {lt lu : Nat → Nat → Bool} {n : Nat} (hp : ∀ i, i < n → p i = q i) (hl : ∀ i j, i < n → j < n → q i = true → q j = true → lt i j = lu i j) : nn_fm p lt n = nn_fm q lu n := nn_fm_congr hp hl (fun _ _ _ h => nn_fm_p h)
theorem nn_ff_ext {p q : Nat → Bool} {n : Nat} (hp : ∀ i, i < n → p i = q i) : nn_ff p n = nn_ff q n := by
  induction n with
  | zero => rfl
  | succ n ih => simp only [nn_ff, ih (fun i h => hp i (by omega)), hp n (by omega)]
theorem nn_ct_ext {p q : Nat → Bool} {n : Nat} (hp : ∀ i, i < n → p i = q i) : nn_ct p n = nn_ct q n := by
  induction n with
  | zero => rfl
  | succ n ih => simp only [nn_ct, ih (fun i h => hp i (by omega)), hp n (by omega)]
theorem nn_any_ext {p q : Nat → Bool} {n : Nat} (hp : ∀ i, i < n → p i = q i) : nn_any p n = nn_any q n := by
  induction n with
  | zero => rfl
  | succ n ih => simp only [nn_any, ih (fun i h => hp i (by omega)), hp n (by omega)]
theorem nn_sm_ext {p q : Nat → Bool} {f g : Nat → Int64} {n : Nat} (hp : ∀ i, i < n → p i = q i) (hf : ∀ i, i < n → q i = true → f i = g i) : nn_sm p f n = nn_sm q g n := by
  induction n with
  | zero => rfl
  | succ n ih =>
    simp only [nn_sm, ih (fun i h => hp i (by omega)) (fun i h => hf i (by omega)), hp n (by omega)]
    by_cases h : q n = true
    · rw [if_pos h, if_pos h, hf n (by omega) h]
    · rw [if_neg h, if_neg h]
theorem bs_m_ext {p q : Nat → Bool} {n : Nat} (hp : ∀ i, i < n → p i = q i) : bs_m p n = bs_m q n := by
  induction n with
  | zero => rfl
  | succ n ih => simp only [bs_m, ih (fun i h => hp i (by omega)), hp n (by omega)]
def tl_sk (fI : Nat → Nat → Int32) (i t : Nat) : Bool := decide (fI 0 i = fI 0 t) && decide (fI 1 i = fI 1 t) && decide (fI 2 i = fI 2 t) && decide (fI 3 i = fI 3 t)
def tl_bf (fI : Nat → Nat → Int32) (fL : Nat → Nat → Int64) (a b : Nat) : Bool :=
  if ¬ fI 0 a = fI 0 b then decide (fI 0 a < fI 0 b) else if ¬ fI 1 a = fI 1 b then decide (fI 1 a < fI 1 b) else if ¬ fI 2 a = fI 2 b then decide (fI 2 a < fI 2 b) else if ¬ fI 3 a = fI 3 b then decide (fI 3 a < fI 3 b) else if ¬ fL 0 a = fL 0 b then decide (fL 0 a < fL 0 b) else decide (fL 1 a < fL 1 b)
def tl_eq (fI : Nat → Nat → Int32) (fL : Nat → Nat → Int64) (d lf nu kd : Int32) (se v : Int64) (i : Nat) : Bool := decide (fI 0 i = d) && decide (fI 1 i = lf) && decide (fI 2 i = nu) && decide (fI 3 i = kd) && decide (fL 0 i = se) && decide (fL 1 i = v)
def tl_has (fI : Nat → Nat → Int32) (fL : Nat → Nat → Int64) (n : Nat) (d lf nu kd : Int32) (se v : Int64) : Bool := nn_any (tl_eq fI fL d lf nu kd se v) n
def tl_pD (fI : Nat → Nat → Int32) (d : Int32) (i : Nat) : Bool := decide (fI 0 i = d)
def tl_ofD (fI : Nat → Nat → Int32) (n : Nat) (d : Int32) : Int64 := bs_m (tl_pD fI d) n
def tl_pK (fI : Nat → Nat → Int32) (d k : Int32) (i : Nat) : Bool := decide (fI 0 i = d) && decide (fI 3 i = k)
def tl_ofK (fI : Nat → Nat → Int32) (n : Nat) (d k : Int32) : Int64 := bs_m (tl_pK fI d k) n
def tl_pN (fL : Nat → Nat → Int64) (bd am : Int64) (i : Nat) : Bool := bs_in am i && decide (bd ≤ fL 0 i)
def tl_nb (fL : Nat → Nat → Int64) (n : Nat) (bd am : Int64) : Int64 := bs_m (tl_pN fL bd am) n
def tl_pS (fI : Nat → Nat → Int32) (t : Nat) (am : Int64) (i : Nat) : Bool := bs_in am i && tl_sk fI i t
def tl_key (fI : Nat → Nat → Int32) (n t : Nat) (am : Int64) : Int64 := bs_m (tl_pS fI t am) n
def tl_usr (fI : Nat → Nat → Int32) (n : Nat) (lv : Int64) : Nat → Int64
  | 0 => lv
  | k + 1 => if bs_in (tl_usr fI n lv k) k = true then tl_usr fI n lv k &&& (tl_key fI n k lv ^^^ (-1)) else tl_usr fI n lv k
def tl_pU (fI : Nat → Nat → Int32) (n : Nat) (lv ch : Int64) (i : Nat) : Bool := bs_in (tl_usr fI n lv i) i && !decide (tl_key fI n i lv = bs_b i) && decide (tl_key fI n i lv &&& ch = 0)
def tl_us (fI : Nat → Nat → Int32) (n : Nat) (lv ch : Int64) : Int64 := bs_m (tl_pU fI n lv ch) n
def tl_first (fI : Nat → Nat → Int32) (fL : Nat → Nat → Int64) (n : Nat) (am : Int64) : Option Nat := nn_fm (bs_in am) (tl_bf fI fL) n
def tl_pH (fI : Nat → Nat → Int32) (fL : Nat → Nat → Int64) (n : Nat) (lv ch : Int64) (i : Nat) : Bool := bs_in lv i && (decide (tl_key fI n i lv = bs_b i) || decide (tl_first fI fL n (tl_key fI n i lv &&& ch) = some i))
def tl_hold (fI : Nat → Nat → Int32) (fL : Nat → Nat → Int64) (n : Nat) (lv ch : Int64) : Int64 := bs_m (tl_pH fI fL n lv ch) n
def tl_pC (fI : Nat → Nat → Int32) (fL : Nat → Nat → Int64) (t : Nat) (am : Int64) (i : Nat) : Bool := bs_in am i && tl_bf fI fL i t
def tl_cb (fI : Nat → Nat → Int32) (fL : Nat → Nat → Int64) (n t : Nat) (am : Int64) : Nat := nn_ct (tl_pC fI fL t am) n
def tl_pI (fI : Nat → Nat → Int32) (fL : Nat → Nat → Int64) (n : Nat) (am : Int64) (pl : Int32) (i : Nat) : Bool := bs_in am i && decide (nI (tl_cb fI fL n i am) = pl)
def tl_ip (fI : Nat → Nat → Int32) (fL : Nat → Nat → Int64) (n : Nat) (am : Int64) (pl : Int32) : Option Nat := nn_ff (tl_pI fI fL n am pl) n
def tl_fb (fI : Nat → Nat → Int32) (fL : Nat → Nat → Int64) (i j : Nat) : Bool := tl_bf fI fL j i
def tl_ln (fI : Nat → Nat → Int32) (fL : Nat → Nat → Int64) (n : Nat) (am : Int64) : Option Nat := nn_fm (bs_in am) (tl_fb fI fL) n
def tl_lt (fI : Nat → Nat → Int32) (fL : Nat → Nat → Int64) (a b : Nat) : Bool := if ¬ fL 0 a = fL 0 b then decide (fL 0 b < fL 0 a) else tl_bf fI fL b a
def tl_pL (fL : Nat → Nat → Int64) (am up ao : Int64) (i : Nat) : Bool := bs_in am i && decide (fL 0 i ≤ up) && decide (fL 2 i ≤ ao)
def tl_lk (fI : Nat → Nat → Int32) (fL : Nat → Nat → Int64) (n : Nat) (am up ao : Int64) : Option Nat := nn_fm (tl_pL fL am up ao) (tl_lt fI fL) n
def tl_pW (fI : Nat → Nat → Int32) (am : Int64) (k : Int32) (i : Nat) : Bool := bs_in am i && decide (fI 3 i = k)
def tl_sum (fI : Nat → Nat → Int32) (fL : Nat → Nat → Int64) (n : Nat) (am : Int64) (k : Int32) : Int64 := nn_sm (tl_pW fI am k) (fL 1) n
def ok_num (x : Int64) : Bool := decide (0 ≤ x) && decide (x ≤ 1000000)
def ok_kind (x : Int32) : Bool := decide (0 ≤ x) && decide (x < 4)
def ok_val (x : Int64) : Bool := decide (-1000000000 ≤ x) && decide (x ≤ 1000000000)
def dr_next (x : Int64) : Int64 := x * 6364136223846793005 + 1442695040888963407
def co_for (fI : Nat → Nat → Int32) (fL : Nat → Nat → Int64) (d kd : Int32) (se : Int64) (i : Nat) : Bool := decide (fI 0 i = d) && decide (fI 1 i = kd) && decide (fL 0 i = se)
def co_st (fL : Nat → Nat → Int64) (a b : Nat) : Bool := if ¬ fL 2 a = fL 2 b then decide (fL 2 b < fL 2 a) else decide (fL 1 b < fL 1 a)
def co_p (fI : Nat → Nat → Int32) (fL : Nat → Nat → Int64) (am : Int64) (d kd : Int32) (se ao : Int64) (i : Nat) : Bool := bs_in am i && co_for fI fL d kd se i && decide (fL 2 i ≤ ao)
def co_la (fI : Nat → Nat → Int32) (fL : Nat → Nat → Int64) (n : Nat) (am : Int64) (d kd : Int32) (se ao : Int64) : Option Nat := nn_fm (co_p fI fL am d kd se ao) (co_st fL) n
def nn_fl (p : Nat → Bool) : Nat → Option Nat
  | 0 => none
  | k + 1 => if p k = true then some k else nn_fl p k
theorem nn_fl_lt {p : Nat → Bool} : ∀ {n j : Nat}, nn_fl p n = some j → j < n := by
  intro n
  induction n with
  | zero => intro j h; simp [nn_fl] at h
  | succ n ih =>
    intro j h
    simp only [nn_fl] at h
    by_cases hp : p n = true
    · rw [if_pos hp] at h; cases h; omega
    · rw [if_neg hp] at h; have := ih h; omega
def ck_bt (n : Nat) (o : Option Nat) : Bool := match o with
  | none => false
  | some j => decide (j + 1 < n)
def ck_p (fL : Nat → Nat → Int64) (x : Int64) (i : Nat) : Bool := decide (fL 0 i ≤ x)
def ck_mb (fL : Nat → Nat → Int64) (n : Nat) (x : Int64) : Option Nat := nn_fl (ck_p fL x) n
def tl_nx (fI : Nat → Nat → Int32) (am : Int64) (af : Int32) : Nat → Int32
  | 0 => -1
  | k + 1 => if bs_in am k = true ∧ ¬ fI 2 k ≤ af ∧ (tl_nx fI am af k = -1 ∨ fI 2 k < tl_nx fI am af k) then fI 2 k else tl_nx fI am af k
def tl_gl (fI : Nat → Nat → Int32) (am : Int64) : Nat → Int32 × Int64
  | 0 => (-1, 0)
  | k + 1 => if bs_in am k = true then (if (tl_gl fI am k).1 < fI 1 k then (fI 1 k, 0 ||| bs_b k) else if fI 1 k = (tl_gl fI am k).1 then ((tl_gl fI am k).1, (tl_gl fI am k).2 ||| bs_b k) else tl_gl fI am k) else tl_gl fI am k
def tl_part (fI : Nat → Nat → Int32) (wt : Int32) (j : Nat) : Int32 := if wt = 0 then fI 0 j else if wt = 1 then fI 1 j else if wt = 2 then fI 2 j else if wt = 3 then fI 3 j else -1
theorem ck_bt_t {n : Nat} {o : Option Nat} (h : ck_bt n o = true) : ∃ j, j + 1 < n ∧ o = some j := by
  cases o with
  | none => cases h
  | some j => exact ⟨j, by simpa [ck_bt] using h, rfl⟩
def ck_dv (fL : Nat → Nat → Int64) (n : Nat) : Option Nat → Int64
  | none => 1
  | some j => if j + 1 < n then fL 0 (j + 1) - fL 0 j else 1
def ck_den (fL : Nat → Nat → Int64) (n : Nat) (x : Int64) : Int64 := ck_dv fL n (ck_mb fL n x)
def ck_nv (fL : Nat → Nat → Int64) (n : Nat) (x : Int64) : Option Nat → Int64
  | none => x + fL 1 0 - fL 0 0
  | some j => if j + 1 < n then fL 1 j * (fL 0 (j + 1) - fL 0 j) + (x - fL 0 j) * (fL 1 (j + 1) - fL 1 j) else x + fL 1 j - fL 0 j
def ck_num (fL : Nat → Nat → Int64) (n : Nat) (x : Int64) : Int64 := if n = 0 then x else ck_nv fL n x (ck_mb fL n x)

def mo_in (v lo hi : Int64) : Bool := decide (lo ≤ v) && decide (v ≤ hi)
def mo_ok (n : Nat) (d : Int32) : Bool := decide (0 ≤ d) && decide (d < nI n)
theorem mo_ix {n : Nat} {d : Int32} (hn : n < 2 ^ 31) (h : mo_ok n d = true) : ∃ z, z < n ∧ d = nI z := by
  simp only [mo_ok, Bool.and_eq_true, decide_eq_true_eq] at h
  obtain ⟨j, hj, rfl⟩ := nI_of (x := d) (fun q => by rw [Int32.lt_iff_toInt_lt] at q; have := Int32.le_iff_toInt_le.mp h.1; omega)
  exact ⟨j, (nI_ltI hj hn).mp h.2, rfl⟩
def mo_he (mI : Nat → Nat → Int32) (mL : Nat → Nat → Int64) (mZ : Nat → Nat → Bool) (z i : Nat) : Bool := mZ 10 (60 * z + i) && decide (mL 13 z ≤ (mI 6 i).toInt64)
def mo_cs (mI : Nat → Nat → Int32) (mL : Nat → Nat → Int64) (mZ : Nat → Nat → Bool) (z i : Nat) : Bool := mo_he mI mL mZ z i && mZ 11 (60 * z + i)
def mo_sk (mI : Nat → Nat → Int32) (i j : Nat) : Bool := decide (mI 2 i = mI 2 j) && decide (mI 3 i = mI 3 j) && decide (mI 4 i = mI 4 j) && decide (mI 5 i = mI 5 j)
def mo_bf (mI : Nat → Nat → Int32) (mL : Nat → Nat → Int64) (i j : Nat) : Bool := if ¬ mI 6 i = mI 6 j then decide (mI 6 i < mI 6 j) else decide (mL 7 i < mL 7 j)
def mo_lt (mI : Nat → Nat → Int32) (i j : Nat) : Bool := if ¬ mI 6 i = mI 6 j then decide (mI 6 j < mI 6 i) else if ¬ mI 3 i = mI 3 j then decide (mI 3 j < mI 3 i) else decide (mI 4 j < mI 4 i)
def mo_kb (mI : Nat → Nat → Int32) (i j : Nat) : Bool := if ¬ mI 2 i = mI 2 j then decide (mI 2 i < mI 2 j) else if ¬ mI 3 i = mI 3 j then decide (mI 3 i < mI 3 j) else if ¬ mI 4 i = mI 4 j then decide (mI 4 i < mI 4 j) else decide (mI 5 i < mI 5 j)
def mo_so (mI : Nat → Nat → Int32) (mL : Nat → Nat → Int64) (mZ : Nat → Nat → Bool) (z i j : Nat) : Bool := !decide (j = i) && mo_sk mI i j && mo_he mI mL mZ z j
def mo_sp (mI : Nat → Nat → Int32) (mL : Nat → Nat → Int64) (mZ : Nat → Nat → Bool) (z i j : Nat) : Bool := mo_so mI mL mZ z i j && (mo_cs mI mL mZ z j && mo_bf mI mL j i)
def se_al (mI : Nat → Nat → Int32) (mL : Nat → Nat → Int64) (mZ : Nat → Nat → Bool) (z i : Nat) : Nat → Bool
  | 0 => true
  | k + 1 => if mo_so mI mL mZ z i k = true then false else se_al mI mL mZ z i k
def se_fi (mI : Nat → Nat → Int32) (mL : Nat → Nat → Int64) (mZ : Nat → Nat → Bool) (z i : Nat) : Nat → Bool
  | 0 => mo_cs mI mL mZ z i
  | k + 1 => if mo_so mI mL mZ z i k = true then (se_fi mI mL mZ z i k && !(mo_cs mI mL mZ z k && mo_bf mI mL k i)) else se_fi mI mL mZ z i k
def mo_se (mI : Nat → Nat → Int32) (mL : Nat → Nat → Int64) (mZ : Nat → Nat → Bool) (n z i : Nat) : Bool := mo_he mI mL mZ z i && (se_al mI mL mZ z i n || se_fi mI mL mZ z i n)
def mo_cc (mI : Nat → Nat → Int32) (mL : Nat → Nat → Int64) (mZ : Nat → Nat → Bool) (z i j : Nat) : Bool := mo_so mI mL mZ z i j && mo_cs mI mL mZ z j
def mo_ce (mI : Nat → Nat → Int32) (mL : Nat → Nat → Int64) (mZ : Nat → Nat → Bool) (z i j : Nat) : Bool := decide (j < i) && mo_so mI mL mZ z i j
def cf_un (mI : Nat → Nat → Int32) (mL : Nat → Nat → Int64) (mZ : Nat → Nat → Bool) (z i : Nat) : Nat → Bool
  | 0 => false
  | k + 1 => if mo_so mI mL mZ z i k = true then true else cf_un mI mL mZ z i k
def cf_st (mI : Nat → Nat → Int32) (mL : Nat → Nat → Int64) (mZ : Nat → Nat → Bool) (z i : Nat) : Nat → Bool
  | 0 => mo_cs mI mL mZ z i
  | k + 1 => if mo_so mI mL mZ z i k = true then (cf_st mI mL mZ z i k || mo_cs mI mL mZ z k) else cf_st mI mL mZ z i k
def mo_cf (mI : Nat → Nat → Int32) (mL : Nat → Nat → Int64) (mZ : Nat → Nat → Bool) (n z i : Nat) : Bool := mo_he mI mL mZ z i && (!nn_any (mo_ce mI mL mZ z i) n && (cf_un mI mL mZ z i n && !cf_st mI mL mZ z i n))
def mo_cn (mI : Nat → Nat → Int32) (mL : Nat → Nat → Int64) (mZ : Nat → Nat → Bool) (n z : Nat) : Nat := nn_ct (mo_cf mI mL mZ n z) n
def mo_life (sc : Nat → Nat) (mI : Nat → Nat → Int32) (d : Int32) : Int32 := if mo_ok (sc 0) d = true then mI 0 d.toNatClampNeg else -1
def mo_kq (sc : Nat → Nat) (mI : Nat → Nat → Int32) (mL : Nat → Nat → Int64) (mZ : Nat → Nat → Bool) (d kd : Int32) (i : Nat) : Bool := mo_ok (sc 3) d && (decide (mI 5 i = kd) && (mZ 10 (60 * d.toNatClampNeg + i) && !mo_he mI mL mZ d.toNatClampNeg i))
def mo_kept (sc : Nat → Nat) (mI : Nat → Nat → Int32) (mL : Nat → Nat → Int64) (mZ : Nat → Nat → Bool) (d kd : Int32) : Int64 := nn_sm (mo_kq sc mI mL mZ d kd) (mL 7) (sc 1)
def mo_ll (mI : Nat → Nat → Int32) (i j : Nat) : Bool := decide (mI 3 j < mI 3 i) || (decide (mI 3 i = mI 3 j) && decide (mI 4 j < mI 4 i))
def mo_lp (sc : Nat → Nat) (mI : Nat → Nat → Int32) (mL : Nat → Nat → Int64) (mZ : Nat → Nat → Bool) (d dv kd : Int32) (i : Nat) : Bool := mo_ok (sc 3) d && (decide (mI 2 i = dv) && (decide (mI 5 i = kd) && mo_se mI mL mZ (sc 1) d.toNatClampNeg i))
def mo_vo (mL : Nat → Nat → Int64) : Option Nat → Int64
  | none => -9223372036854775808
  | some j => mL 7 j
def mo_last (sc : Nat → Nat) (mI : Nat → Nat → Int32) (mL : Nat → Nat → Int64) (mZ : Nat → Nat → Bool) (d dv kd : Int32) : Int64 := mo_vo mL (nn_fm (mo_lp sc mI mL mZ d dv kd) (mo_ll mI) (sc 1))
def eq_1 (mL : Nat → Nat → Int64) (mZ : Nat → Nat → Bool) (z y : Nat) : Nat → Bool
  | 0 => decide (mL 13 z = mL 13 y)
  | k + 1 => eq_1 mL mZ z y k && (decide (mZ 10 (60 * z + k) = mZ 10 (60 * y + k)) && decide (mZ 11 (60 * z + k) = mZ 11 (60 * y + k)))
def eq_2 (mL : Nat → Nat → Int64) (mZ : Nat → Nat → Bool) (z y : Nat) : Nat → Bool
  | 0 => eq_1 mL mZ z y 60
  | k + 1 => eq_2 mL mZ z y k && decide (mZ 12 (20 * z + k) = mZ 12 (20 * y + k))
def mo_equal (sc : Nat → Nat) (mL : Nat → Nat → Int64) (mZ : Nat → Nat → Bool) (d dv : Int32) : Bool := mo_ok (sc 3) d && (mo_ok (sc 3) dv && eq_2 mL mZ d.toNatClampNeg dv.toNatClampNeg 20)
abbrev ms_S : Type := (Nat → Nat) × (Nat → Nat → Int32) × (Nat → Nat → Int64) × (Nat → Nat → Bool)
def mo_device (sc : Nat → Nat) (mI : Nat → Nat → Int32) (mL : Nat → Nat → Int64) (mZ : Nat → Nat → Bool) : Int32 × ms_S := if sc 0 = 4 then (-1, sc, mI, mL, mZ) else (nI (sc 0), va_up sc 0 (sc 0 + 1), mI, mL, mZ)
def mo_reset (sc : Nat → Nat) (mI : Nat → Nat → Int32) (mL : Nat → Nat → Int64) (mZ : Nat → Nat → Bool) (d : Int32) (x : Int64) : Bool × ms_S :=
  if mo_ok (sc 0) d = true ∧ mo_in x 0 1000000 = true ∧ ¬ mI 0 d.toNatClampNeg = 99 then (true, sc, va_up mI 0 (upd (mI 0) d.toNatClampNeg (mI 0 d.toNatClampNeg + 1)), va_up mL 1 (vp_updL (mL 1) d.toNatClampNeg x), mZ) else (false, sc, mI, mL, mZ)
def jb_h (mZ : Nat → Nat → Bool) (to fr : Nat) : Nat → Nat → Bool
  | 0 => mZ 10
  | k + 1 => va_up (jb_h mZ to fr k) (60 * to + k) (jb_h mZ to fr k (60 * to + k) || jb_h mZ to fr k (60 * fr + k))
def jb_c (mZ : Nat → Nat → Bool) (to fr : Nat) : Nat → Nat → Bool
  | 0 => mZ 11
  | k + 1 => va_up (jb_c mZ to fr k) (60 * to + k) (jb_c mZ to fr k (60 * to + k) || jb_c mZ to fr k (60 * fr + k))
def jb_f (mZ : Nat → Nat → Bool) (to fr : Nat) : Nat → Nat → Bool
  | 0 => mZ 12
  | k + 1 => va_up (jb_f mZ to fr k) (20 * to + k) (jb_f mZ to fr k (20 * to + k) || jb_f mZ to fr k (20 * fr + k))
def jb_g (mL : Nat → Nat → Int64) (mZ : Nat → Nat → Bool) (to fr : Nat) : Nat → Bool
  | 0 => decide (mL 13 to < mL 13 fr)
  | k + 1 => jb_g mL mZ to fr k || ((jb_h mZ to fr k (60 * fr + k) && !jb_h mZ to fr k (60 * to + k)) || (jb_c mZ to fr k (60 * fr + k) && !jb_c mZ to fr k (60 * to + k)))
def jb_e (mL : Nat → Nat → Int64) (mZ : Nat → Nat → Bool) (to fr : Nat) : Nat → Bool
  | 0 => jb_g mL mZ to fr 60
  | k + 1 => jb_e mL mZ to fr k || (jb_f mZ to fr k (20 * fr + k) && !jb_f mZ to fr k (20 * to + k))
def jb_b (mL : Nat → Nat → Int64) (to fr : Nat) : Nat → Int64 := vp_updL (mL 13) to (if mL 13 to < mL 13 fr then mL 13 fr else mL 13 to)
def mo_bring (sc : Nat → Nat) (mI : Nat → Nat → Int32) (mL : Nat → Nat → Int64) (mZ : Nat → Nat → Bool) (to fr : Nat) : Bool × ms_S := (jb_e mL mZ to fr 20, sc, mI, va_up mL 13 (jb_b mL to fr), va_up (va_up (va_up mZ 10 (jb_h mZ to fr 60)) 11 (jb_c mZ to fr 60)) 12 (jb_f mZ to fr 20))
def mo_joinTo (sc : Nat → Nat) (mI : Nat → Nat → Int32) (mL : Nat → Nat → Int64) (mZ : Nat → Nat → Bool) (z y : Nat) : Bool × ms_S := mo_bring sc mI mL mZ (if 0 ≤ mI 14 z then 6 + z else z) y
def mo_te (mI : Nat → Nat → Int32) (mL : Nat → Nat → Int64) (d : Int32) (x : Int64) (kd : Int32) (se v : Int64) (i : Nat) : Bool := decide (mI 2 i = d) && (decide (mI 3 i = mI 0 d.toNatClampNeg) && (decide ((mI 4 i).toInt64 = x) && (decide (mI 5 i = kd) && (decide ((mI 6 i).toInt64 = se) && decide (mL 7 i = v)))))
def mo_tok (sc : Nat → Nat) (mL : Nat → Nat → Int64) (d : Int32) (x : Int64) (kd : Int32) (se v wh : Int64) : Bool := mo_ok (sc 0) d && (mo_in x (mL 1 d.toNatClampNeg) 1000000 && (mo_in kd.toInt64 0 3 && (mo_in se 0 1000000 && (mo_in v (-1000000000) 1000000000 && mo_in wh 0 1000000))))
def mo_tell (sc : Nat → Nat) (mI : Nat → Nat → Int32) (mL : Nat → Nat → Int64) (mZ : Nat → Nat → Bool) (d : Int32) (x : Int64) (kd : Int32) (se v wh : Int64) : Int32 × ms_S :=
  if mo_tok sc mL d x kd se v wh = false then (-1, sc, mI, mL, mZ) else if nn_any (mo_te mI mL d x kd se v) (sc 1) = true then (0, sc, mI, mL, mZ) else if sc 1 = 60 then (-1, sc, mI, mL, mZ) else
  (1, va_up sc 1 (sc 1 + 1), va_up (va_up (va_up (va_up (va_up (va_up mI 2 (upd (mI 2) (sc 1) d)) 3 (upd (mI 3) (sc 1) (mI 0 d.toNatClampNeg))) 4 (upd (mI 4) (sc 1) x.toInt32)) 5 (upd (mI 5) (sc 1) kd)) 6 (upd (mI 6) (sc 1) se.toInt32)) 8 (upd (mI 8) (sc 1) wh.toInt32), va_up mL 7 (vp_updL (mL 7) (sc 1) v), mZ)
def mo_zs (sc : Nat → Nat) (mI : Nat → Nat → Int32) (mZ : Nat → Nat → Bool) (d : Int32) : Nat → Nat → Bool
  | 0 => mZ 10
  | k + 1 => va_up (mo_zs sc mI mZ d k) (60 * sc 3 + k) (decide (mI 2 k = d))
def mo_set (sc : Nat → Nat) (mI : Nat → Nat → Int32) (mL : Nat → Nat → Int64) (mZ : Nat → Nat → Bool) (d : Int32) : Int32 × ms_S := if mo_ok (sc 0) d = false ∨ sc 3 = 6 then (-1, sc, mI, mL, mZ) else (nI (sc 3), va_up sc 3 (sc 3 + 1), mI, mL, va_up mZ 10 (mo_zs sc mI mZ d (sc 1)))
def mo_join (sc : Nat → Nat) (mI : Nat → Nat → Int32) (mL : Nat → Nat → Int64) (mZ : Nat → Nat → Bool) (d dv : Int32) : Int32 × ms_S := if mo_ok (sc 3) d = true ∧ mo_ok (sc 3) dv = true then (nI (mo_cn (mo_joinTo sc mI mL mZ d.toNatClampNeg dv.toNatClampNeg).2.2.1 (mo_joinTo sc mI mL mZ d.toNatClampNeg dv.toNatClampNeg).2.2.2.1 (mo_joinTo sc mI mL mZ d.toNatClampNeg dv.toNatClampNeg).2.2.2.2 (sc 1) d.toNatClampNeg), (mo_joinTo sc mI mL mZ d.toNatClampNeg dv.toNatClampNeg).2) else (-1, sc, mI, mL, mZ)

abbrev tl_S : Type := Nat × (Nat → Nat → Int32) × (Nat → Nat → Int64)
abbrev ck_S : Type := Nat × (Nat → Nat → Int64)
def tl_add (n : Nat) (fI : Nat → Nat → Int32) (fL : Nat → Nat → Int64) (d lf nu kd : Int32) (se v wh : Int64) : Bool × tl_S := if 60 ≤ n then (false, n, fI, fL) else (true, n + 1, va_up (va_up (va_up (va_up fI 0 (upd (fI 0) n d)) 1 (upd (fI 1) n lf)) 2 (upd (fI 2) n nu)) 3 (upd (fI 3) n kd), va_up (va_up (va_up fL 0 (vp_updL (fL 0) n se)) 1 (vp_updL (fL 1) n v)) 2 (vp_updL (fL 2) n wh))
def co_eq (fI : Nat → Nat → Int32) (fL : Nat → Nat → Int64) (d kd : Int32) (se v wh : Int64) (i : Nat) : Bool := co_for fI fL d kd se i && (decide (fL 1 i = v) && decide (fL 2 i = wh))
def co_put (n : Nat) (fI : Nat → Nat → Int32) (fL : Nat → Nat → Int64) (d kd : Int32) (se v wh : Int64) : tl_S := (n + 1, va_up (va_up fI 0 (upd (fI 0) n d)) 1 (upd (fI 1) n kd), va_up (va_up (va_up fL 0 (vp_updL (fL 0) n se)) 1 (vp_updL (fL 1) n v)) 2 (vp_updL (fL 2) n wh))
def co_add (n : Nat) (fI : Nat → Nat → Int32) (fL : Nat → Nat → Int64) (d kd : Int32) (se v wh : Int64) : Option Nat × tl_S := match nn_ff (co_eq fI fL d kd se v wh) n with
  | some i => (some i, n, fI, fL)
  | none => if 20 ≤ n then (none, n, fI, fL) else (some n, co_put n fI fL d kd se v wh)
def ck_add (n : Nat) (fL : Nat → Nat → Int64) (x y : Int64) : Bool × ck_S := if 10 ≤ n ∨ (0 < n ∧ (x ≤ fL 0 (n - 1) ∨ y < fL 1 (n - 1))) then (false, n, fL) else (true, n + 1, va_up (va_up fL 0 (vp_updL (fL 0) n x)) 1 (vp_updL (fL 1) n y))
